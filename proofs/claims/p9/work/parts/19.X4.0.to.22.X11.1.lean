section
section
variable {p : Program} {l : Launch} {e : Env} {s : State} {m : MethodId} {args : Array Value} {below : List Frame} {meth : Method} {c : Code} {D : va_G} {cy : Nat → ClassId} {ad : Nat → Nat} {dd : Nat}

/-! X4_skipFirst -/
def fX4_skipFirst (n0 : Nat) (x1 : Int32) (M : Mem) : Option (Int32 × Mem) :=
  if x1 = 0 then
    (fX8_fail n0 (6 : Int32) (gI M 387) M).bind fun z17 =>
    if z17.1 = 0 ∨ z17.1 = 1 then some (z17.1, z17.2) else none
  else
    (fX8_advance n0 M).bind fun z25 =>
    some ((1 : Int32), z25)
theorem tfX4_skipFirst (n0 : Nat) (hO : OKc p (rmL 4) s m args meth c LX D cy ad cX4_skipFirst RX4 2 4 (some .boolean)) (x1 : Int32) (M : Mem) : BL p l e (rmL 4) s m args below meth c LX D cy ad 2 (QI LX D cy ad) 0 [(0, .ref (ad 1)), (1, .int x1)] [] M (fX4_skipFirst n0 x1 M) := by
  unfold fX4_skipFirst
  refine b_iload_n hO dX4_skipFirst_0 1 rfl rfl ?_
  refine b_if_ne hO dX4_skipFirst_1 (tgt := 21) (by decide) ?_ ?_
  · refine b_aload_n hO dX4_skipFirst_21 0 rfl rfl ?_
    refine b_get hO flX4_14 kLX_1 (v := .ref (ad 3)) rfl dX4_skipFirst_22 ?_
    refine b_callVV hO mdX8_advance mvX8_advance w745 (ci := 8) rfl rfl (by decide) kLX_3 (As := []) (st := []) (ctX8_advance n0 hO.2.2.2.2.2.2.1 _) (Nat.le_of_ble_eq_true rfl) rfl rfl (Nat.le_of_ble_eq_true rfl) dX4_skipFirst_25 (fun z25 => ?_)
    refine b_iconst hO dX4_skipFirst_28 ic_i_1 ?_
    exact b_zretc hO (Or.inr rfl) dX4_skipFirst_29
  · refine b_aload_n hO dX4_skipFirst_4 0 rfl rfl ?_
    refine b_get hO flX4_14 kLX_1 (v := .ref (ad 3)) rfl dX4_skipFirst_5 ?_
    refine b_bipush hO dX4_skipFirst_8 ic_b_6 ?_
    refine b_aload_n hO dX4_skipFirst_10 0 rfl rfl ?_
    refine b_get hO flX4_14 kLX_1 (v := .ref (ad 3)) rfl dX4_skipFirst_11 ?_
    refine b_get hO flX4_60 kLX_3 (v := .int (gI _ 387)) rfl dX4_skipFirst_14 ?_
    refine b_callVI hO mdX8_fail mvX8_fail w741 (ci := 8) rfl rfl (by decide) kLX_3 (As := [.int _, .int _]) (st := []) (ctX8_fail n0 hO.2.2.2.2.2.2.1 _ _ _) (Nat.le_of_ble_eq_true rfl) rfl rfl (Nat.le_of_ble_eq_true rfl) dX4_skipFirst_17 (fun z17 => ?_)
    exact b_zret hO dX4_skipFirst_20
theorem ctX4_skipFirst (n0 : Nat) (hI : Inj LX ad) (x1 : Int32) (M : Mem) : CT l LX D cy ad yX4_skipFirst cX4_skipFirst 2 (some .boolean) 4 (QI LX D cy ad) [.ref (ad 1), .int x1] M (fX4_skipFirst n0 x1 M) :=
  CT.mk LXok hI (by decide) (Nat.le_of_ble_eq_true rfl) (fun hO => tfX4_skipFirst n0 hO x1 M)
/-! X4_newName -/
def fX4_newName_67 (n0 : Nat) (M : Mem) : Option (Int32 × Mem) :=
  (fX8_fail n0 (2 : Int32) (gI M 387) M).bind fun z79 =>
  some ((-1 : Int32), z79.2)
def fX4_newName (n0 : Nat) (M : Mem) : Option (Int32 × Mem) :=
  bnd (gI M 389) fun x1_7 =>
  if (gI M 386) = (257 : Int32) then
    (fX9_findThing n0 (gR M 130) x1_7 M).bind fun z36 =>
    if z36.1 = (-1 : Int32) then
      (fX9_findCorner n0 (gR z36.2 130) x1_7 z36.2).bind fun z48 =>
      if z48.1 = (-1 : Int32) then
        (fX9_findDoing n0 (gR z48.2 130) x1_7 z48.2).bind fun z60 =>
        if z60.1 = (-1 : Int32) then
          (fX8_advance n0 z60.2).bind fun z89 =>
          some (x1_7, z89)
        else
          fX4_newName_67 n0 z60.2
      else
        fX4_newName_67 n0 z48.2
    else
      fX4_newName_67 n0 z36.2
  else
    (fX8_failHere n0 M).bind fun z25 =>
    some ((-1 : Int32), z25.2)
theorem tfX4_newName_67 (n0 : Nat) (hO : OKc p (rmL 4) s m args meth c LX D cy ad cX4_newName RX4 2 4 (some .int)) (M : Mem) : BL p l e (rmL 4) s m args below meth c LX D cy ad 2 (QI LX D cy ad) 67 [(0, .ref (ad 1))] [] M (fX4_newName_67 n0 M) := by
  unfold fX4_newName_67
  refine b_aload_n hO dX4_newName_67 0 rfl rfl ?_
  refine b_get hO flX4_14 kLX_1 (v := .ref (ad 3)) rfl dX4_newName_68 ?_
  refine b_iconst hO dX4_newName_71 ic_i_2 ?_
  refine b_aload_n hO dX4_newName_72 0 rfl rfl ?_
  refine b_get hO flX4_14 kLX_1 (v := .ref (ad 3)) rfl dX4_newName_73 ?_
  refine b_get hO flX4_60 kLX_3 (v := .int (gI _ 387)) rfl dX4_newName_76 ?_
  refine b_callVI hO mdX8_fail mvX8_fail w741 (ci := 8) rfl rfl (by decide) kLX_3 (As := [.int _, .int _]) (st := []) (ctX8_fail n0 hO.2.2.2.2.2.2.1 _ _ _) (Nat.le_of_ble_eq_true rfl) rfl rfl (Nat.le_of_ble_eq_true rfl) dX4_newName_79 (fun z79 => ?_)
  refine b_pop hO dX4_newName_82 rfl ?_
  refine b_iconst hO dX4_newName_83 ic_i_m1 ?_
  exact b_iret hO dX4_newName_84
theorem tfX4_newName (n0 : Nat) (hO : OKc p (rmL 4) s m args meth c LX D cy ad cX4_newName RX4 2 4 (some .int)) (M : Mem) : BL p l e (rmL 4) s m args below meth c LX D cy ad 2 (QI LX D cy ad) 0 [(0, .ref (ad 1))] [] M (fX4_newName n0 M) := by
  unfold fX4_newName
  refine b_aload_n hO dX4_newName_0 0 rfl rfl ?_
  refine b_get hO flX4_14 kLX_1 (v := .ref (ad 3)) rfl dX4_newName_1 ?_
  refine b_get hO flX4_151 kLX_3 (v := .int (gI _ 389)) rfl dX4_newName_4 ?_
  refine b_topI (fun x1_7 => ?_)
  refine b_istore_n hO dX4_newName_7 rfl (by decide) (lv' := [(1, .int _), (0, .ref _)]) rfl ?_
  refine b_aload_n hO dX4_newName_8 1 rfl rfl ?_
  refine b_get hO flX4_14 kLX_1 (v := .ref (ad 3)) rfl dX4_newName_9 ?_
  refine b_get hO flX4_45 kLX_3 (v := .int (gI _ 386)) rfl dX4_newName_12 ?_
  refine b_sipush hO dX4_newName_15 ic_s_257 ?_
  refine b_icmp_eq hO dX4_newName_18 (tgt := 31) (by decide) ?_ ?_
  · refine b_aload_n hO dX4_newName_31 1 rfl rfl ?_
    refine b_getR hO flX4_35 kLX_1 (id := 130) rfl rfl (rk := 9) rfl (by decide) dX4_newName_32 (fun hg1 => ?_)
    refine b_iload_n hO dX4_newName_35 0 rfl rfl ?_
    refine b_callVI hO mdX9_findThing mvX9_findThing w759 (ci := 9) rfl rfl (by decide) hg1 (As := [.int _]) (st := []) (ctX9_findThing n0 _ hg1 hO.2.2.2.2.2.2.1 _ _) (Nat.le_of_ble_eq_true rfl) rfl rfl (Nat.le_of_ble_eq_true rfl) dX4_newName_36 (fun z36 => ?_)
    refine b_iconst hO dX4_newName_39 ic_i_m1 ?_
    refine b_icmp_ne hO dX4_newName_40 (tgt := 67) (by decide) ?_ ?_
    · refine b_sub [1] rfl ?_
      exact tfX4_newName_67 n0 hO _
    · refine b_aload_n hO dX4_newName_43 1 rfl rfl ?_
      refine b_getR hO flX4_35 kLX_1 (id := 130) rfl rfl (rk := 9) rfl (by decide) dX4_newName_44 (fun hg2 => ?_)
      refine b_iload_n hO dX4_newName_47 0 rfl rfl ?_
      refine b_callVI hO mdX9_findCorner mvX9_findCorner w766 (ci := 9) rfl rfl (by decide) hg2 (As := [.int _]) (st := []) (ctX9_findCorner n0 _ hg2 hO.2.2.2.2.2.2.1 _ _) (Nat.le_of_ble_eq_true rfl) rfl rfl (Nat.le_of_ble_eq_true rfl) dX4_newName_48 (fun z48 => ?_)
      refine b_iconst hO dX4_newName_51 ic_i_m1 ?_
      refine b_icmp_ne hO dX4_newName_52 (tgt := 67) (by decide) ?_ ?_
      · refine b_sub [1] rfl ?_
        exact tfX4_newName_67 n0 hO _
      · refine b_aload_n hO dX4_newName_55 1 rfl rfl ?_
        refine b_getR hO flX4_35 kLX_1 (id := 130) rfl rfl (rk := 9) rfl (by decide) dX4_newName_56 (fun hg3 => ?_)
        refine b_iload_n hO dX4_newName_59 0 rfl rfl ?_
        refine b_callVI hO mdX9_findDoing mvX9_findDoing w770 (ci := 9) rfl rfl (by decide) hg3 (As := [.int _]) (st := []) (ctX9_findDoing n0 _ hg3 hO.2.2.2.2.2.2.1 _ _) (Nat.le_of_ble_eq_true rfl) rfl rfl (Nat.le_of_ble_eq_true rfl) dX4_newName_60 (fun z60 => ?_)
        refine b_iconst hO dX4_newName_63 ic_i_m1 ?_
        refine b_icmp_eq hO dX4_newName_64 (tgt := 85) (by decide) ?_ ?_
        · refine b_aload_n hO dX4_newName_85 1 rfl rfl ?_
          refine b_get hO flX4_14 kLX_1 (v := .ref (ad 3)) rfl dX4_newName_86 ?_
          refine b_callVV hO mdX8_advance mvX8_advance w745 (ci := 8) rfl rfl (by decide) kLX_3 (As := []) (st := []) (ctX8_advance n0 hO.2.2.2.2.2.2.1 _) (Nat.le_of_ble_eq_true rfl) rfl rfl (Nat.le_of_ble_eq_true rfl) dX4_newName_89 (fun z89 => ?_)
          refine b_iload_n hO dX4_newName_92 0 rfl rfl ?_
          exact b_iret hO dX4_newName_93
        · refine b_sub [1] rfl ?_
          exact tfX4_newName_67 n0 hO _
  · refine b_aload_n hO dX4_newName_21 1 rfl rfl ?_
    refine b_get hO flX4_14 kLX_1 (v := .ref (ad 3)) rfl dX4_newName_22 ?_
    refine b_callVI hO mdX8_failHere mvX8_failHere w754 (ci := 8) rfl rfl (by decide) kLX_3 (As := []) (st := []) (ctX8_failHere n0 hO.2.2.2.2.2.2.1 _) (Nat.le_of_ble_eq_true rfl) rfl rfl (Nat.le_of_ble_eq_true rfl) dX4_newName_25 (fun z25 => ?_)
    refine b_pop hO dX4_newName_28 rfl ?_
    refine b_iconst hO dX4_newName_29 ic_i_m1 ?_
    exact b_iret hO dX4_newName_30
theorem ctX4_newName (n0 : Nat) (hI : Inj LX ad) (M : Mem) : CT l LX D cy ad yX4_newName cX4_newName 2 (some .int) 4 (QI LX D cy ad) [.ref (ad 1)] M (fX4_newName n0 M) :=
  CT.mk LXok hI (by decide) (Nat.le_of_ble_eq_true rfl) (fun hO => tfX4_newName n0 hO M)
/-! X4_number -/
def fX4_number_41 (n0 : Nat) (M : Mem) : Option (Int32 × Mem) :=
  (fX8_fail n0 (4 : Int32) (gI M 387) M).bind fun z53 =>
  some ((-1 : Int32), z53.2)
def fX4_number (n0 : Nat) (x1 : Int32) (x2 : Int32) (M : Mem) : Option (Int32 × Mem) :=
  bnd (gI M 389) fun x3_7 =>
  if (gI M 386) = (256 : Int32) then
    if x3_7 < x1 then
      fX4_number_41 n0 M
    else
      if x3_7 ≤ x2 then
        (fX8_advance n0 M).bind fun z63 =>
        some (x3_7, z63)
      else
        fX4_number_41 n0 M
  else
    (fX8_failHere n0 M).bind fun z25 =>
    some ((-1 : Int32), z25.2)
theorem tfX4_number_41 (n0 : Nat) (hO : OKc p (rmL 4) s m args meth c LX D cy ad cX4_number RX4 4 4 (some .int)) (M : Mem) : BL p l e (rmL 4) s m args below meth c LX D cy ad 4 (QI LX D cy ad) 41 [(0, .ref (ad 1))] [] M (fX4_number_41 n0 M) := by
  unfold fX4_number_41
  refine b_aload_n hO dX4_number_41 0 rfl rfl ?_
  refine b_get hO flX4_14 kLX_1 (v := .ref (ad 3)) rfl dX4_number_42 ?_
  refine b_iconst hO dX4_number_45 ic_i_4 ?_
  refine b_aload_n hO dX4_number_46 0 rfl rfl ?_
  refine b_get hO flX4_14 kLX_1 (v := .ref (ad 3)) rfl dX4_number_47 ?_
  refine b_get hO flX4_60 kLX_3 (v := .int (gI _ 387)) rfl dX4_number_50 ?_
  refine b_callVI hO mdX8_fail mvX8_fail w741 (ci := 8) rfl rfl (by decide) kLX_3 (As := [.int _, .int _]) (st := []) (ctX8_fail n0 hO.2.2.2.2.2.2.1 _ _ _) (Nat.le_of_ble_eq_true rfl) rfl rfl (Nat.le_of_ble_eq_true rfl) dX4_number_53 (fun z53 => ?_)
  refine b_pop hO dX4_number_56 rfl ?_
  refine b_iconst hO dX4_number_57 ic_i_m1 ?_
  exact b_iret hO dX4_number_58
theorem tfX4_number (n0 : Nat) (hO : OKc p (rmL 4) s m args meth c LX D cy ad cX4_number RX4 4 4 (some .int)) (x1 : Int32) (x2 : Int32) (M : Mem) : BL p l e (rmL 4) s m args below meth c LX D cy ad 4 (QI LX D cy ad) 0 [(0, .ref (ad 1)), (1, .int x1), (2, .int x2)] [] M (fX4_number n0 x1 x2 M) := by
  unfold fX4_number
  refine b_aload_n hO dX4_number_0 0 rfl rfl ?_
  refine b_get hO flX4_14 kLX_1 (v := .ref (ad 3)) rfl dX4_number_1 ?_
  refine b_get hO flX4_151 kLX_3 (v := .int (gI _ 389)) rfl dX4_number_4 ?_
  refine b_topI (fun x3_7 => ?_)
  refine b_istore_n hO dX4_number_7 rfl (by decide) (lv' := [(3, .int _), (0, .ref _), (1, .int _), (2, .int _)]) rfl ?_
  refine b_aload_n hO dX4_number_8 1 rfl rfl ?_
  refine b_get hO flX4_14 kLX_1 (v := .ref (ad 3)) rfl dX4_number_9 ?_
  refine b_get hO flX4_45 kLX_3 (v := .int (gI _ 386)) rfl dX4_number_12 ?_
  refine b_sipush hO dX4_number_15 ic_s_256 ?_
  refine b_icmp_eq hO dX4_number_18 (tgt := 31) (by decide) ?_ ?_
  · refine b_iload_n hO dX4_number_31 0 rfl rfl ?_
    refine b_iload_n hO dX4_number_32 2 rfl rfl ?_
    refine b_icmp_lt hO dX4_number_33 (tgt := 41) (by decide) ?_ ?_
    · refine b_sub [1] rfl ?_
      exact tfX4_number_41 n0 hO _
    · refine b_iload_n hO dX4_number_36 0 rfl rfl ?_
      refine b_iload_n hO dX4_number_37 3 rfl rfl ?_
      refine b_icmp_le hO dX4_number_38 (tgt := 59) (by decide) ?_ ?_
      · refine b_aload_n hO dX4_number_59 1 rfl rfl ?_
        refine b_get hO flX4_14 kLX_1 (v := .ref (ad 3)) rfl dX4_number_60 ?_
        refine b_callVV hO mdX8_advance mvX8_advance w745 (ci := 8) rfl rfl (by decide) kLX_3 (As := []) (st := []) (ctX8_advance n0 hO.2.2.2.2.2.2.1 _) (Nat.le_of_ble_eq_true rfl) rfl rfl (Nat.le_of_ble_eq_true rfl) dX4_number_63 (fun z63 => ?_)
        refine b_iload_n hO dX4_number_66 0 rfl rfl ?_
        exact b_iret hO dX4_number_67
      · refine b_sub [1] rfl ?_
        exact tfX4_number_41 n0 hO _
  · refine b_aload_n hO dX4_number_21 1 rfl rfl ?_
    refine b_get hO flX4_14 kLX_1 (v := .ref (ad 3)) rfl dX4_number_22 ?_
    refine b_callVI hO mdX8_failHere mvX8_failHere w754 (ci := 8) rfl rfl (by decide) kLX_3 (As := []) (st := []) (ctX8_failHere n0 hO.2.2.2.2.2.2.1 _) (Nat.le_of_ble_eq_true rfl) rfl rfl (Nat.le_of_ble_eq_true rfl) dX4_number_25 (fun z25 => ?_)
    refine b_pop hO dX4_number_28 rfl ?_
    refine b_iconst hO dX4_number_29 ic_i_m1 ?_
    exact b_iret hO dX4_number_30
theorem ctX4_number (n0 : Nat) (hI : Inj LX ad) (x1 : Int32) (x2 : Int32) (M : Mem) : CT l LX D cy ad yX4_number cX4_number 4 (some .int) 4 (QI LX D cy ad) [.ref (ad 1), .int x1, .int x2] M (fX4_number n0 x1 x2 M) :=
  CT.mk LXok hI (by decide) (Nat.le_of_ble_eq_true rfl) (fun hO => tfX4_number n0 hO x1 x2 M)
/-! X4_readThing -/
def fX4_readThing (n0 : Nat) (M : Mem) : Option (Int32 × Mem) :=
  (fX4_newName n0 M).bind fun z1 =>
  if z1.1 = (-1 : Int32) then
    some ((0 : Int32), z1.2)
  else
    (fX8_skip n0 (261 : Int32) z1.2).bind fun z17 =>
    if z17.1 = 0 then
      some ((0 : Int32), z17.2)
    else
      (fX4_number n0 (0 : Int32) (99 : Int32) z17.2).bind fun z29 =>
      if z29.1 = (-1 : Int32) then
        some ((0 : Int32), z29.2)
      else
        (fX8_skip n0 (262 : Int32) z29.2).bind fun z45 =>
        if z45.1 = 0 then
          some ((0 : Int32), z45.2)
        else
          (fX4_number n0 (1 : Int32) (99 : Int32) z45.2).bind fun z57 =>
          if z57.1 = (-1 : Int32) then
            some ((0 : Int32), z57.2)
          else
            (fX9_addThing n0 (gR z57.2 130) z1.1 z29.1 z57.1 z57.2).bind fun z75 =>
            some ((1 : Int32), z75)
theorem tfX4_readThing (n0 : Nat) (hO : OKc p (rmL 5) s m args meth c LX D cy ad cX4_readThing RX4 4 5 (some .boolean)) (M : Mem) : BL p l e (rmL 5) s m args below meth c LX D cy ad 4 (QI LX D cy ad) 0 [(0, .ref (ad 1))] [] M (fX4_readThing n0 M) := by
  unfold fX4_readThing
  refine b_aload_n hO dX4_readThing_0 0 rfl rfl ?_
  refine b_callVI hO mdX4_newName mvX4_newName w750 (ci := 4) rfl rfl (by decide) kLX_1 (As := []) (st := []) (ctX4_newName n0 hO.2.2.2.2.2.2.1 _) (Nat.le_of_ble_eq_true rfl) rfl rfl (Nat.le_of_ble_eq_true rfl) dX4_readThing_1 (fun z1 => ?_)
  refine b_istore_n hO dX4_readThing_4 rfl (by decide) (lv' := [(1, .int _), (0, .ref _)]) rfl ?_
  refine b_iload_n hO dX4_readThing_5 0 rfl rfl ?_
  refine b_iconst hO dX4_readThing_6 ic_i_m1 ?_
  refine b_icmp_eq hO dX4_readThing_7 (tgt := 23) (by decide) ?_ ?_
  · refine b_iconst hO dX4_readThing_23 ic_i_0 ?_
    exact b_zretc hO (Or.inl rfl) dX4_readThing_24
  · refine b_aload_n hO dX4_readThing_10 1 rfl rfl ?_
    refine b_get hO flX4_14 kLX_1 (v := .ref (ad 3)) rfl dX4_readThing_11 ?_
    refine b_sipush hO dX4_readThing_14 ic_s_261 ?_
    refine b_callVI hO mdX8_skip mvX8_skip w774 (ci := 8) rfl rfl (by decide) kLX_3 (As := [.int _]) (st := []) (ctX8_skip n0 hO.2.2.2.2.2.2.1 _ _) (Nat.le_of_ble_eq_true rfl) rfl rfl (Nat.le_of_ble_eq_true rfl) dX4_readThing_17 (fun z17 => ?_)
    refine b_if_ne hO dX4_readThing_20 (tgt := 25) (by decide) ?_ ?_
    · refine b_aload_n hO dX4_readThing_25 1 rfl rfl ?_
      refine b_iconst hO dX4_readThing_26 ic_i_0 ?_
      refine b_bipush hO dX4_readThing_27 ic_b_99 ?_
      refine b_callVI hO mdX4_number mvX4_number w779 (ci := 4) rfl rfl (by decide) kLX_1 (As := [.int _, .int _]) (st := []) (ctX4_number n0 hO.2.2.2.2.2.2.1 _ _ _) (Nat.le_of_ble_eq_true rfl) rfl rfl (Nat.le_of_ble_eq_true rfl) dX4_readThing_29 (fun z29 => ?_)
      refine b_istore_n hO dX4_readThing_32 rfl (by decide) (lv' := [(2, .int _), (1, .int _), (0, .ref _)]) rfl ?_
      refine b_iload_n hO dX4_readThing_33 0 rfl rfl ?_
      refine b_iconst hO dX4_readThing_34 ic_i_m1 ?_
      refine b_icmp_eq hO dX4_readThing_35 (tgt := 51) (by decide) ?_ ?_
      · refine b_iconst hO dX4_readThing_51 ic_i_0 ?_
        exact b_zretc hO (Or.inl rfl) dX4_readThing_52
      · refine b_aload_n hO dX4_readThing_38 2 rfl rfl ?_
        refine b_get hO flX4_14 kLX_1 (v := .ref (ad 3)) rfl dX4_readThing_39 ?_
        refine b_sipush hO dX4_readThing_42 ic_s_262 ?_
        refine b_callVI hO mdX8_skip mvX8_skip w774 (ci := 8) rfl rfl (by decide) kLX_3 (As := [.int _]) (st := []) (ctX8_skip n0 hO.2.2.2.2.2.2.1 _ _) (Nat.le_of_ble_eq_true rfl) rfl rfl (Nat.le_of_ble_eq_true rfl) dX4_readThing_45 (fun z45 => ?_)
        refine b_if_ne hO dX4_readThing_48 (tgt := 53) (by decide) ?_ ?_
        · refine b_aload_n hO dX4_readThing_53 2 rfl rfl ?_
          refine b_iconst hO dX4_readThing_54 ic_i_1 ?_
          refine b_bipush hO dX4_readThing_55 ic_b_99 ?_
          refine b_callVI hO mdX4_number mvX4_number w779 (ci := 4) rfl rfl (by decide) kLX_1 (As := [.int _, .int _]) (st := []) (ctX4_number n0 hO.2.2.2.2.2.2.1 _ _ _) (Nat.le_of_ble_eq_true rfl) rfl rfl (Nat.le_of_ble_eq_true rfl) dX4_readThing_57 (fun z57 => ?_)
          refine b_istore_n hO dX4_readThing_60 rfl (by decide) (lv' := [(3, .int _), (2, .int _), (1, .int _), (0, .ref _)]) rfl ?_
          refine b_iload_n hO dX4_readThing_61 0 rfl rfl ?_
          refine b_iconst hO dX4_readThing_62 ic_i_m1 ?_
          refine b_icmp_ne hO dX4_readThing_63 (tgt := 68) (by decide) ?_ ?_
          · refine b_aload_n hO dX4_readThing_68 3 rfl rfl ?_
            refine b_getR hO flX4_35 kLX_1 (id := 130) rfl rfl (rk := 9) rfl (by decide) dX4_readThing_69 (fun hg1 => ?_)
            refine b_iload_n hO dX4_readThing_72 2 rfl rfl ?_
            refine b_iload_n hO dX4_readThing_73 1 rfl rfl ?_
            refine b_iload_n hO dX4_readThing_74 0 rfl rfl ?_
            refine b_callVV hO mdX9_addThing mvX9_addThing w783 (ci := 9) rfl rfl (by decide) hg1 (As := [.int _, .int _, .int _]) (st := []) (ctX9_addThing n0 _ hg1 hO.2.2.2.2.2.2.1 _ _ _ _) (Nat.le_of_ble_eq_true rfl) rfl rfl (Nat.le_of_ble_eq_true rfl) dX4_readThing_75 (fun z75 => ?_)
            refine b_iconst hO dX4_readThing_78 ic_i_1 ?_
            exact b_zretc hO (Or.inr rfl) dX4_readThing_79
          · refine b_iconst hO dX4_readThing_66 ic_i_0 ?_
            exact b_zretc hO (Or.inl rfl) dX4_readThing_67
        · refine b_iconst hO dX4_readThing_51 ic_i_0 ?_
          exact b_zretc hO (Or.inl rfl) dX4_readThing_52
    · refine b_iconst hO dX4_readThing_23 ic_i_0 ?_
      exact b_zretc hO (Or.inl rfl) dX4_readThing_24
theorem ctX4_readThing (n0 : Nat) (hI : Inj LX ad) (M : Mem) : CT l LX D cy ad yX4_readThing cX4_readThing 4 (some .boolean) 5 (QI LX D cy ad) [.ref (ad 1)] M (fX4_readThing n0 M) :=
  CT.mk LXok hI (by decide) (Nat.le_of_ble_eq_true rfl) (fun hO => tfX4_readThing n0 hO M)
/-! X4_readCorner -/
def fX4_readCorner (n0 : Nat) (M : Mem) : Option (Int32 × Mem) :=
  (fX4_newName n0 M).bind fun z1 =>
  if z1.1 = (-1 : Int32) then
    some ((0 : Int32), z1.2)
  else
    (fX9_addCorner n0 (gR z1.2 130) z1.1 z1.2).bind fun z17 =>
    some ((1 : Int32), z17)
theorem tfX4_readCorner (n0 : Nat) (hO : OKc p (rmL 5) s m args meth c LX D cy ad cX4_readCorner RX4 2 5 (some .boolean)) (M : Mem) : BL p l e (rmL 5) s m args below meth c LX D cy ad 2 (QI LX D cy ad) 0 [(0, .ref (ad 1))] [] M (fX4_readCorner n0 M) := by
  unfold fX4_readCorner
  refine b_aload_n hO dX4_readCorner_0 0 rfl rfl ?_
  refine b_callVI hO mdX4_newName mvX4_newName w750 (ci := 4) rfl rfl (by decide) kLX_1 (As := []) (st := []) (ctX4_newName n0 hO.2.2.2.2.2.2.1 _) (Nat.le_of_ble_eq_true rfl) rfl rfl (Nat.le_of_ble_eq_true rfl) dX4_readCorner_1 (fun z1 => ?_)
  refine b_istore_n hO dX4_readCorner_4 rfl (by decide) (lv' := [(1, .int _), (0, .ref _)]) rfl ?_
  refine b_iload_n hO dX4_readCorner_5 0 rfl rfl ?_
  refine b_iconst hO dX4_readCorner_6 ic_i_m1 ?_
  refine b_icmp_ne hO dX4_readCorner_7 (tgt := 12) (by decide) ?_ ?_
  · refine b_aload_n hO dX4_readCorner_12 1 rfl rfl ?_
    refine b_getR hO flX4_35 kLX_1 (id := 130) rfl rfl (rk := 9) rfl (by decide) dX4_readCorner_13 (fun hg1 => ?_)
    refine b_iload_n hO dX4_readCorner_16 0 rfl rfl ?_
    refine b_callVV hO mdX9_addCorner mvX9_addCorner w791 (ci := 9) rfl rfl (by decide) hg1 (As := [.int _]) (st := []) (ctX9_addCorner n0 _ hg1 hO.2.2.2.2.2.2.1 _ _) (Nat.le_of_ble_eq_true rfl) rfl rfl (Nat.le_of_ble_eq_true rfl) dX4_readCorner_17 (fun z17 => ?_)
    refine b_iconst hO dX4_readCorner_20 ic_i_1 ?_
    exact b_zretc hO (Or.inr rfl) dX4_readCorner_21
  · refine b_iconst hO dX4_readCorner_10 ic_i_0 ?_
    exact b_zretc hO (Or.inl rfl) dX4_readCorner_11
theorem ctX4_readCorner (n0 : Nat) (hI : Inj LX ad) (M : Mem) : CT l LX D cy ad yX4_readCorner cX4_readCorner 2 (some .boolean) 5 (QI LX D cy ad) [.ref (ad 1)] M (fX4_readCorner n0 M) :=
  CT.mk LXok hI (by decide) (Nat.le_of_ble_eq_true rfl) (fun hO => tfX4_readCorner n0 hO M)
/-! X4_cornerHere -/
def fX4_cornerHere (n0 : Nat) (M : Mem) : Option (Int32 × Mem) :=
  if (gI M 386) = (257 : Int32) then
    (fX9_findCorner n0 (gR M 130) (gI M 389) M).bind fun z34 =>
    if z34.1 = (-1 : Int32) then
      (fX8_fail n0 (3 : Int32) (gI z34.2 387) z34.2).bind fun z55 =>
      some (z34.1, z55.2)
    else
      some (z34.1, z34.2)
  else
    (fX8_failHere n0 M).bind fun z17 =>
    some ((-1 : Int32), z17.2)
theorem tfX4_cornerHere (n0 : Nat) (hO : OKc p (rmL 3) s m args meth c LX D cy ad cX4_cornerHere RX4 2 3 (some .int)) (M : Mem) : BL p l e (rmL 3) s m args below meth c LX D cy ad 2 (QI LX D cy ad) 0 [(0, .ref (ad 1))] [] M (fX4_cornerHere n0 M) := by
  unfold fX4_cornerHere
  refine b_aload_n hO dX4_cornerHere_0 0 rfl rfl ?_
  refine b_get hO flX4_14 kLX_1 (v := .ref (ad 3)) rfl dX4_cornerHere_1 ?_
  refine b_get hO flX4_45 kLX_3 (v := .int (gI _ 386)) rfl dX4_cornerHere_4 ?_
  refine b_sipush hO dX4_cornerHere_7 ic_s_257 ?_
  refine b_icmp_eq hO dX4_cornerHere_10 (tgt := 23) (by decide) ?_ ?_
  · refine b_aload_n hO dX4_cornerHere_23 0 rfl rfl ?_
    refine b_getR hO flX4_35 kLX_1 (id := 130) rfl rfl (rk := 9) rfl (by decide) dX4_cornerHere_24 (fun hg1 => ?_)
    refine b_aload_n hO dX4_cornerHere_27 0 rfl rfl ?_
    refine b_get hO flX4_14 kLX_1 (v := .ref (ad 3)) rfl dX4_cornerHere_28 ?_
    refine b_get hO flX4_151 kLX_3 (v := .int (gI _ 389)) rfl dX4_cornerHere_31 ?_
    refine b_callVI hO mdX9_findCorner mvX9_findCorner w766 (ci := 9) rfl rfl (by decide) hg1 (As := [.int _]) (st := []) (ctX9_findCorner n0 _ hg1 hO.2.2.2.2.2.2.1 _ _) (Nat.le_of_ble_eq_true rfl) rfl rfl (Nat.le_of_ble_eq_true rfl) dX4_cornerHere_34 (fun z34 => ?_)
    refine b_istore_n hO dX4_cornerHere_37 rfl (by decide) (lv' := [(1, .int _), (0, .ref _)]) rfl ?_
    refine b_iload_n hO dX4_cornerHere_38 0 rfl rfl ?_
    refine b_iconst hO dX4_cornerHere_39 ic_i_m1 ?_
    refine b_icmp_ne hO dX4_cornerHere_40 (tgt := 59) (by decide) ?_ ?_
    · refine b_iload_n hO dX4_cornerHere_59 0 rfl rfl ?_
      exact b_iret hO dX4_cornerHere_60
    · refine b_aload_n hO dX4_cornerHere_43 1 rfl rfl ?_
      refine b_get hO flX4_14 kLX_1 (v := .ref (ad 3)) rfl dX4_cornerHere_44 ?_
      refine b_iconst hO dX4_cornerHere_47 ic_i_3 ?_
      refine b_aload_n hO dX4_cornerHere_48 1 rfl rfl ?_
      refine b_get hO flX4_14 kLX_1 (v := .ref (ad 3)) rfl dX4_cornerHere_49 ?_
      refine b_get hO flX4_60 kLX_3 (v := .int (gI _ 387)) rfl dX4_cornerHere_52 ?_
      refine b_callVI hO mdX8_fail mvX8_fail w741 (ci := 8) rfl rfl (by decide) kLX_3 (As := [.int _, .int _]) (st := []) (ctX8_fail n0 hO.2.2.2.2.2.2.1 _ _ _) (Nat.le_of_ble_eq_true rfl) rfl rfl (Nat.le_of_ble_eq_true rfl) dX4_cornerHere_55 (fun z55 => ?_)
      refine b_pop hO dX4_cornerHere_58 rfl ?_
      refine b_iload_n hO dX4_cornerHere_59 0 rfl rfl ?_
      exact b_iret hO dX4_cornerHere_60
  · refine b_aload_n hO dX4_cornerHere_13 0 rfl rfl ?_
    refine b_get hO flX4_14 kLX_1 (v := .ref (ad 3)) rfl dX4_cornerHere_14 ?_
    refine b_callVI hO mdX8_failHere mvX8_failHere w754 (ci := 8) rfl rfl (by decide) kLX_3 (As := []) (st := []) (ctX8_failHere n0 hO.2.2.2.2.2.2.1 _) (Nat.le_of_ble_eq_true rfl) rfl rfl (Nat.le_of_ble_eq_true rfl) dX4_cornerHere_17 (fun z17 => ?_)
    refine b_pop hO dX4_cornerHere_20 rfl ?_
    refine b_iconst hO dX4_cornerHere_21 ic_i_m1 ?_
    exact b_iret hO dX4_cornerHere_22
theorem ctX4_cornerHere (n0 : Nat) (hI : Inj LX ad) (M : Mem) : CT l LX D cy ad yX4_cornerHere cX4_cornerHere 2 (some .int) 3 (QI LX D cy ad) [.ref (ad 1)] M (fX4_cornerHere n0 M) :=
  CT.mk LXok hI (by decide) (Nat.le_of_ble_eq_true rfl) (fun hO => tfX4_cornerHere n0 hO M)
/-! X4_readRoad -/
def fX4_readRoad_63 (n0 : Nat) (M : Mem) : Option (Int32 × Mem) :=
  (fX8_fail n0 (3 : Int32) (gI M 387) M).bind fun z75 =>
  if z75.1 = 0 ∨ z75.1 = 1 then some (z75.1, z75.2) else none
def fX4_readRoad_110 (n0 : Nat) (x1 : Int32) (x2 : Int32) (u0 : Int32) (M : Mem) : Option (Int32 × Mem) :=
  if u0 = (-1 : Int32) then
    some ((0 : Int32), M)
  else
    (fX9_addRoad n0 (gR M 130) x1 x2 u0 M).bind fun z125 =>
    some ((1 : Int32), z125)
def fX4_readRoad (n0 : Nat) (M : Mem) : Option (Int32 × Mem) :=
  (fX4_cornerHere n0 M).bind fun z1 =>
  if z1.1 = (-1 : Int32) then
    some ((0 : Int32), z1.2)
  else
    (fX8_advance n0 z1.2).bind fun z16 =>
    (fX8_skip n0 (265 : Int32) z16).bind fun z26 =>
    if z26.1 = 0 then
      some ((0 : Int32), z26.2)
    else
      (fX4_cornerHere n0 z26.2).bind fun z35 =>
      if z35.1 = (-1 : Int32) then
        some ((0 : Int32), z35.2)
      else
        if z35.1 = z1.1 then
          fX4_readRoad_63 n0 z35.2
        else
          (fX9_hasRoad n0 (gR z35.2 130) z1.1 z35.1 z35.2).bind fun z57 =>
          if z57.1 = 0 then
            (fX8_advance n0 z57.2).bind fun z83 =>
            (fX8_skip n0 (266 : Int32) z83).bind fun z93 =>
            if z93.1 = 0 then
              fX4_readRoad_110 n0 z1.1 z35.1 (-1 : Int32) z93.2
            else
              (fX4_number n0 (1 : Int32) (30 : Int32) z93.2).bind fun z103 =>
              fX4_readRoad_110 n0 z1.1 z35.1 z103.1 z103.2
          else
            fX4_readRoad_63 n0 z57.2
theorem tfX4_readRoad_63 (n0 : Nat) (hO : OKc p (rmL 5) s m args meth c LX D cy ad cX4_readRoad RX4 4 5 (some .boolean)) (M : Mem) : BL p l e (rmL 5) s m args below meth c LX D cy ad 4 (QI LX D cy ad) 63 [(0, .ref (ad 1))] [] M (fX4_readRoad_63 n0 M) := by
  unfold fX4_readRoad_63
  refine b_aload_n hO dX4_readRoad_63 0 rfl rfl ?_
  refine b_get hO flX4_14 kLX_1 (v := .ref (ad 3)) rfl dX4_readRoad_64 ?_
  refine b_iconst hO dX4_readRoad_67 ic_i_3 ?_
  refine b_aload_n hO dX4_readRoad_68 0 rfl rfl ?_
  refine b_get hO flX4_14 kLX_1 (v := .ref (ad 3)) rfl dX4_readRoad_69 ?_
  refine b_get hO flX4_60 kLX_3 (v := .int (gI _ 387)) rfl dX4_readRoad_72 ?_
  refine b_callVI hO mdX8_fail mvX8_fail w741 (ci := 8) rfl rfl (by decide) kLX_3 (As := [.int _, .int _]) (st := []) (ctX8_fail n0 hO.2.2.2.2.2.2.1 _ _ _) (Nat.le_of_ble_eq_true rfl) rfl rfl (Nat.le_of_ble_eq_true rfl) dX4_readRoad_75 (fun z75 => ?_)
  exact b_zret hO dX4_readRoad_78
theorem tfX4_readRoad_110 (n0 : Nat) (hO : OKc p (rmL 5) s m args meth c LX D cy ad cX4_readRoad RX4 4 5 (some .boolean)) (x1 : Int32) (x2 : Int32) (u0 : Int32) (M : Mem) : BL p l e (rmL 5) s m args below meth c LX D cy ad 4 (QI LX D cy ad) 110 [(0, .ref (ad 1)), (1, .int x1), (2, .int x2)] [.int u0] M (fX4_readRoad_110 n0 x1 x2 u0 M) := by
  unfold fX4_readRoad_110
  refine b_istore_n hO dX4_readRoad_110 rfl (by decide) (lv' := [(3, .int _), (0, .ref _), (1, .int _), (2, .int _)]) rfl ?_
  refine b_iload_n hO dX4_readRoad_111 0 rfl rfl ?_
  refine b_iconst hO dX4_readRoad_112 ic_i_m1 ?_
  refine b_icmp_ne hO dX4_readRoad_113 (tgt := 118) (by decide) ?_ ?_
  · refine b_aload_n hO dX4_readRoad_118 1 rfl rfl ?_
    refine b_getR hO flX4_35 kLX_1 (id := 130) rfl rfl (rk := 9) rfl (by decide) dX4_readRoad_119 (fun hg1 => ?_)
    refine b_iload_n hO dX4_readRoad_122 2 rfl rfl ?_
    refine b_iload_n hO dX4_readRoad_123 3 rfl rfl ?_
    refine b_iload_n hO dX4_readRoad_124 0 rfl rfl ?_
    refine b_callVV hO mdX9_addRoad mvX9_addRoad w807 (ci := 9) rfl rfl (by decide) hg1 (As := [.int _, .int _, .int _]) (st := []) (ctX9_addRoad n0 _ hg1 hO.2.2.2.2.2.2.1 _ _ _ _) (Nat.le_of_ble_eq_true rfl) rfl rfl (Nat.le_of_ble_eq_true rfl) dX4_readRoad_125 (fun z125 => ?_)
    refine b_iconst hO dX4_readRoad_128 ic_i_1 ?_
    exact b_zretc hO (Or.inr rfl) dX4_readRoad_129
  · refine b_iconst hO dX4_readRoad_116 ic_i_0 ?_
    exact b_zretc hO (Or.inl rfl) dX4_readRoad_117
theorem tfX4_readRoad (n0 : Nat) (hO : OKc p (rmL 5) s m args meth c LX D cy ad cX4_readRoad RX4 4 5 (some .boolean)) (M : Mem) : BL p l e (rmL 5) s m args below meth c LX D cy ad 4 (QI LX D cy ad) 0 [(0, .ref (ad 1))] [] M (fX4_readRoad n0 M) := by
  unfold fX4_readRoad
  refine b_aload_n hO dX4_readRoad_0 0 rfl rfl ?_
  refine b_callVI hO mdX4_cornerHere mvX4_cornerHere w799 (ci := 4) rfl rfl (by decide) kLX_1 (As := []) (st := []) (ctX4_cornerHere n0 hO.2.2.2.2.2.2.1 _) (Nat.le_of_ble_eq_true rfl) rfl rfl (Nat.le_of_ble_eq_true rfl) dX4_readRoad_1 (fun z1 => ?_)
  refine b_istore_n hO dX4_readRoad_4 rfl (by decide) (lv' := [(1, .int _), (0, .ref _)]) rfl ?_
  refine b_iload_n hO dX4_readRoad_5 0 rfl rfl ?_
  refine b_iconst hO dX4_readRoad_6 ic_i_m1 ?_
  refine b_icmp_ne hO dX4_readRoad_7 (tgt := 12) (by decide) ?_ ?_
  · refine b_aload_n hO dX4_readRoad_12 1 rfl rfl ?_
    refine b_get hO flX4_14 kLX_1 (v := .ref (ad 3)) rfl dX4_readRoad_13 ?_
    refine b_callVV hO mdX8_advance mvX8_advance w745 (ci := 8) rfl rfl (by decide) kLX_3 (As := []) (st := []) (ctX8_advance n0 hO.2.2.2.2.2.2.1 _) (Nat.le_of_ble_eq_true rfl) rfl rfl (Nat.le_of_ble_eq_true rfl) dX4_readRoad_16 (fun z16 => ?_)
    refine b_aload_n hO dX4_readRoad_19 1 rfl rfl ?_
    refine b_get hO flX4_14 kLX_1 (v := .ref (ad 3)) rfl dX4_readRoad_20 ?_
    refine b_sipush hO dX4_readRoad_23 ic_s_265 ?_
    refine b_callVI hO mdX8_skip mvX8_skip w774 (ci := 8) rfl rfl (by decide) kLX_3 (As := [.int _]) (st := []) (ctX8_skip n0 hO.2.2.2.2.2.2.1 _ _) (Nat.le_of_ble_eq_true rfl) rfl rfl (Nat.le_of_ble_eq_true rfl) dX4_readRoad_26 (fun z26 => ?_)
    refine b_if_ne hO dX4_readRoad_29 (tgt := 34) (by decide) ?_ ?_
    · refine b_aload_n hO dX4_readRoad_34 1 rfl rfl ?_
      refine b_callVI hO mdX4_cornerHere mvX4_cornerHere w799 (ci := 4) rfl rfl (by decide) kLX_1 (As := []) (st := []) (ctX4_cornerHere n0 hO.2.2.2.2.2.2.1 _) (Nat.le_of_ble_eq_true rfl) rfl rfl (Nat.le_of_ble_eq_true rfl) dX4_readRoad_35 (fun z35 => ?_)
      refine b_istore_n hO dX4_readRoad_38 rfl (by decide) (lv' := [(2, .int _), (1, .int _), (0, .ref _)]) rfl ?_
      refine b_iload_n hO dX4_readRoad_39 0 rfl rfl ?_
      refine b_iconst hO dX4_readRoad_40 ic_i_m1 ?_
      refine b_icmp_ne hO dX4_readRoad_41 (tgt := 46) (by decide) ?_ ?_
      · refine b_iload_n hO dX4_readRoad_46 0 rfl rfl ?_
        refine b_iload_n hO dX4_readRoad_47 1 rfl rfl ?_
        refine b_icmp_eq hO dX4_readRoad_48 (tgt := 63) (by decide) ?_ ?_
        · refine b_sub [2] rfl ?_
          exact tfX4_readRoad_63 n0 hO _
        · refine b_aload_n hO dX4_readRoad_51 2 rfl rfl ?_
          refine b_getR hO flX4_35 kLX_1 (id := 130) rfl rfl (rk := 9) rfl (by decide) dX4_readRoad_52 (fun hg1 => ?_)
          refine b_iload_n hO dX4_readRoad_55 1 rfl rfl ?_
          refine b_iload_n hO dX4_readRoad_56 0 rfl rfl ?_
          refine b_callVI hO mdX9_hasRoad mvX9_hasRoad w803 (ci := 9) rfl rfl (by decide) hg1 (As := [.int _, .int _]) (st := []) (ctX9_hasRoad n0 _ hg1 hO.2.2.2.2.2.2.1 _ _ _) (Nat.le_of_ble_eq_true rfl) rfl rfl (Nat.le_of_ble_eq_true rfl) dX4_readRoad_57 (fun z57 => ?_)
          refine b_if_eq hO dX4_readRoad_60 (tgt := 79) (by decide) ?_ ?_
          · refine b_aload_n hO dX4_readRoad_79 2 rfl rfl ?_
            refine b_get hO flX4_14 kLX_1 (v := .ref (ad 3)) rfl dX4_readRoad_80 ?_
            refine b_callVV hO mdX8_advance mvX8_advance w745 (ci := 8) rfl rfl (by decide) kLX_3 (As := []) (st := []) (ctX8_advance n0 hO.2.2.2.2.2.2.1 _) (Nat.le_of_ble_eq_true rfl) rfl rfl (Nat.le_of_ble_eq_true rfl) dX4_readRoad_83 (fun z83 => ?_)
            refine b_aload_n hO dX4_readRoad_86 2 rfl rfl ?_
            refine b_get hO flX4_14 kLX_1 (v := .ref (ad 3)) rfl dX4_readRoad_87 ?_
            refine b_sipush hO dX4_readRoad_90 ic_s_266 ?_
            refine b_callVI hO mdX8_skip mvX8_skip w774 (ci := 8) rfl rfl (by decide) kLX_3 (As := [.int _]) (st := []) (ctX8_skip n0 hO.2.2.2.2.2.2.1 _ _) (Nat.le_of_ble_eq_true rfl) rfl rfl (Nat.le_of_ble_eq_true rfl) dX4_readRoad_93 (fun z93 => ?_)
            refine b_if_eq hO dX4_readRoad_96 (tgt := 109) (by decide) ?_ ?_
            · refine b_iconst hO dX4_readRoad_109 ic_i_m1 ?_
              refine b_sub [2, 1, 0] rfl ?_
              exact tfX4_readRoad_110 n0 hO _ _ _ _
            · refine b_aload_n hO dX4_readRoad_99 2 rfl rfl ?_
              refine b_iconst hO dX4_readRoad_100 ic_i_1 ?_
              refine b_bipush hO dX4_readRoad_101 ic_b_30 ?_
              refine b_callVI hO mdX4_number mvX4_number w779 (ci := 4) rfl rfl (by decide) kLX_1 (As := [.int _, .int _]) (st := []) (ctX4_number n0 hO.2.2.2.2.2.2.1 _ _ _) (Nat.le_of_ble_eq_true rfl) rfl rfl (Nat.le_of_ble_eq_true rfl) dX4_readRoad_103 (fun z103 => ?_)
              refine b_goto hO dX4_readRoad_106 (tgt := 110) (by decide) ?_
              refine b_sub [2, 1, 0] rfl ?_
              exact tfX4_readRoad_110 n0 hO _ _ _ _
          · refine b_sub [2] rfl ?_
            exact tfX4_readRoad_63 n0 hO _
      · refine b_iconst hO dX4_readRoad_44 ic_i_0 ?_
        exact b_zretc hO (Or.inl rfl) dX4_readRoad_45
    · refine b_iconst hO dX4_readRoad_32 ic_i_0 ?_
      exact b_zretc hO (Or.inl rfl) dX4_readRoad_33
  · refine b_iconst hO dX4_readRoad_10 ic_i_0 ?_
    exact b_zretc hO (Or.inl rfl) dX4_readRoad_11
theorem ctX4_readRoad (n0 : Nat) (hI : Inj LX ad) (M : Mem) : CT l LX D cy ad yX4_readRoad cX4_readRoad 4 (some .boolean) 5 (QI LX D cy ad) [.ref (ad 1)] M (fX4_readRoad n0 M) :=
  CT.mk LXok hI (by decide) (Nat.le_of_ble_eq_true rfl) (fun hO => tfX4_readRoad n0 hO M)
/-! X4_readPalm -/
def fX4_readPalm (n0 : Nat) (M : Mem) : Option (Int32 × Mem) :=
  (fX4_cornerHere n0 M).bind fun z1 =>
  if z1.1 = (-1 : Int32) then
    some ((0 : Int32), z1.2)
  else
    if oob z1.1 5 then none else
    if (gA z1.2 ((gR z1.2 130) + 5) (Int32.toNatClampNeg z1.1)) = (-1 : Int32) then
      (fX8_advance n0 z1.2).bind fun z45 =>
      (fX8_skip n0 (268 : Int32) z45).bind fun z55 =>
      if z55.1 = 0 then
        some ((0 : Int32), z55.2)
      else
        if (gI z55.2 386) = (257 : Int32) then
          (fX9_findThing n0 (gR z55.2 130) (gI z55.2 389) z55.2).bind fun z95 =>
          if z95.1 = (-1 : Int32) then
            (fX8_fail n0 (3 : Int32) (gI z95.2 387) z95.2).bind fun z116 =>
            if z116.1 = 0 ∨ z116.1 = 1 then some (z116.1, z116.2) else none
          else
            (fX8_advance n0 z95.2).bind fun z124 =>
            if oob z1.1 5 then none else
            bnd (sA z124 ((gR z124 130) + 5) (Int32.toNatClampNeg z1.1) z95.1) fun M136 =>
            some ((1 : Int32), M136)
        else
          (fX8_failHere n0 z55.2).bind fun z80 =>
          if z80.1 = 0 ∨ z80.1 = 1 then some (z80.1, z80.2) else none
    else
      (fX8_fail n0 (3 : Int32) (gI z1.2 387) z1.2).bind fun z37 =>
      if z37.1 = 0 ∨ z37.1 = 1 then some (z37.1, z37.2) else none
theorem tfX4_readPalm (n0 : Nat) (hO : OKc p (rmL 5) s m args meth c LX D cy ad cX4_readPalm RX4 3 5 (some .boolean)) (M : Mem) : BL p l e (rmL 5) s m args below meth c LX D cy ad 3 (QI LX D cy ad) 0 [(0, .ref (ad 1))] [] M (fX4_readPalm n0 M) := by
  unfold fX4_readPalm
  refine b_aload_n hO dX4_readPalm_0 0 rfl rfl ?_
  refine b_callVI hO mdX4_cornerHere mvX4_cornerHere w799 (ci := 4) rfl rfl (by decide) kLX_1 (As := []) (st := []) (ctX4_cornerHere n0 hO.2.2.2.2.2.2.1 _) (Nat.le_of_ble_eq_true rfl) rfl rfl (Nat.le_of_ble_eq_true rfl) dX4_readPalm_1 (fun z1 => ?_)
  refine b_istore_n hO dX4_readPalm_4 rfl (by decide) (lv' := [(1, .int _), (0, .ref _)]) rfl ?_
  refine b_iload_n hO dX4_readPalm_5 0 rfl rfl ?_
  refine b_iconst hO dX4_readPalm_6 ic_i_m1 ?_
  refine b_icmp_ne hO dX4_readPalm_7 (tgt := 12) (by decide) ?_ ?_
  · refine b_aload_n hO dX4_readPalm_12 1 rfl rfl ?_
    refine b_getR hO flX4_35 kLX_1 (id := 130) rfl rfl (rk := 9) rfl (by decide) dX4_readPalm_13 (fun hg1 => ?_)
    refine b_get hO flX4_147 hg1 (v := .ref (ad ((gR z1.2 130) + 5))) rfl dX4_readPalm_16 ?_
    refine b_iload_n hO dX4_readPalm_19 0 rfl rfl ?_
    refine b_iald hO (kt_9_5 hg1) (n := 5) (lt_9_5 hg1) dX4_readPalm_20 ?_
    refine b_iconst hO dX4_readPalm_21 ic_i_m1 ?_
    refine b_icmp_eq hO dX4_readPalm_22 (tgt := 41) (by decide) ?_ ?_
    · refine b_aload_n hO dX4_readPalm_41 1 rfl rfl ?_
      refine b_get hO flX4_14 kLX_1 (v := .ref (ad 3)) rfl dX4_readPalm_42 ?_
      refine b_callVV hO mdX8_advance mvX8_advance w745 (ci := 8) rfl rfl (by decide) kLX_3 (As := []) (st := []) (ctX8_advance n0 hO.2.2.2.2.2.2.1 _) (Nat.le_of_ble_eq_true rfl) rfl rfl (Nat.le_of_ble_eq_true rfl) dX4_readPalm_45 (fun z45 => ?_)
      refine b_aload_n hO dX4_readPalm_48 1 rfl rfl ?_
      refine b_get hO flX4_14 kLX_1 (v := .ref (ad 3)) rfl dX4_readPalm_49 ?_
      refine b_sipush hO dX4_readPalm_52 ic_s_268 ?_
      refine b_callVI hO mdX8_skip mvX8_skip w774 (ci := 8) rfl rfl (by decide) kLX_3 (As := [.int _]) (st := []) (ctX8_skip n0 hO.2.2.2.2.2.2.1 _ _) (Nat.le_of_ble_eq_true rfl) rfl rfl (Nat.le_of_ble_eq_true rfl) dX4_readPalm_55 (fun z55 => ?_)
      refine b_if_ne hO dX4_readPalm_58 (tgt := 63) (by decide) ?_ ?_
      · refine b_aload_n hO dX4_readPalm_63 1 rfl rfl ?_
        refine b_get hO flX4_14 kLX_1 (v := .ref (ad 3)) rfl dX4_readPalm_64 ?_
        refine b_get hO flX4_45 kLX_3 (v := .int (gI _ 386)) rfl dX4_readPalm_67 ?_
        refine b_sipush hO dX4_readPalm_70 ic_s_257 ?_
        refine b_icmp_eq hO dX4_readPalm_73 (tgt := 84) (by decide) ?_ ?_
        · refine b_aload_n hO dX4_readPalm_84 1 rfl rfl ?_
          refine b_getR hO flX4_35 kLX_1 (id := 130) rfl rfl (rk := 9) rfl (by decide) dX4_readPalm_85 (fun hg2 => ?_)
          refine b_aload_n hO dX4_readPalm_88 1 rfl rfl ?_
          refine b_get hO flX4_14 kLX_1 (v := .ref (ad 3)) rfl dX4_readPalm_89 ?_
          refine b_get hO flX4_151 kLX_3 (v := .int (gI _ 389)) rfl dX4_readPalm_92 ?_
          refine b_callVI hO mdX9_findThing mvX9_findThing w759 (ci := 9) rfl rfl (by decide) hg2 (As := [.int _]) (st := []) (ctX9_findThing n0 _ hg2 hO.2.2.2.2.2.2.1 _ _) (Nat.le_of_ble_eq_true rfl) rfl rfl (Nat.le_of_ble_eq_true rfl) dX4_readPalm_95 (fun z95 => ?_)
          refine b_istore_n hO dX4_readPalm_98 rfl (by decide) (lv' := [(2, .int _), (1, .int _), (0, .ref _)]) rfl ?_
          refine b_iload_n hO dX4_readPalm_99 0 rfl rfl ?_
          refine b_iconst hO dX4_readPalm_100 ic_i_m1 ?_
          refine b_icmp_ne hO dX4_readPalm_101 (tgt := 120) (by decide) ?_ ?_
          · refine b_aload_n hO dX4_readPalm_120 2 rfl rfl ?_
            refine b_get hO flX4_14 kLX_1 (v := .ref (ad 3)) rfl dX4_readPalm_121 ?_
            refine b_callVV hO mdX8_advance mvX8_advance w745 (ci := 8) rfl rfl (by decide) kLX_3 (As := []) (st := []) (ctX8_advance n0 hO.2.2.2.2.2.2.1 _) (Nat.le_of_ble_eq_true rfl) rfl rfl (Nat.le_of_ble_eq_true rfl) dX4_readPalm_124 (fun z124 => ?_)
            refine b_aload_n hO dX4_readPalm_127 2 rfl rfl ?_
            refine b_getR hO flX4_35 kLX_1 (id := 130) rfl rfl (rk := 9) rfl (by decide) dX4_readPalm_128 (fun hg3 => ?_)
            refine b_get hO flX4_147 hg3 (v := .ref (ad ((gR z124 130) + 5))) rfl dX4_readPalm_131 ?_
            refine b_iload_n hO dX4_readPalm_134 1 rfl rfl ?_
            refine b_iload_n hO dX4_readPalm_135 0 rfl rfl ?_
            refine b_iast hO (kt_9_5 hg3) (n := 5) (lt_9_5 hg3) dX4_readPalm_136 ?_
            refine b_bnd (fun M136 => ?_)
            refine b_iconst hO dX4_readPalm_137 ic_i_1 ?_
            exact b_zretc hO (Or.inr rfl) dX4_readPalm_138
          · refine b_aload_n hO dX4_readPalm_104 2 rfl rfl ?_
            refine b_get hO flX4_14 kLX_1 (v := .ref (ad 3)) rfl dX4_readPalm_105 ?_
            refine b_iconst hO dX4_readPalm_108 ic_i_3 ?_
            refine b_aload_n hO dX4_readPalm_109 2 rfl rfl ?_
            refine b_get hO flX4_14 kLX_1 (v := .ref (ad 3)) rfl dX4_readPalm_110 ?_
            refine b_get hO flX4_60 kLX_3 (v := .int (gI _ 387)) rfl dX4_readPalm_113 ?_
            refine b_callVI hO mdX8_fail mvX8_fail w741 (ci := 8) rfl rfl (by decide) kLX_3 (As := [.int _, .int _]) (st := []) (ctX8_fail n0 hO.2.2.2.2.2.2.1 _ _ _) (Nat.le_of_ble_eq_true rfl) rfl rfl (Nat.le_of_ble_eq_true rfl) dX4_readPalm_116 (fun z116 => ?_)
            exact b_zret hO dX4_readPalm_119
        · refine b_aload_n hO dX4_readPalm_76 1 rfl rfl ?_
          refine b_get hO flX4_14 kLX_1 (v := .ref (ad 3)) rfl dX4_readPalm_77 ?_
          refine b_callVI hO mdX8_failHere mvX8_failHere w754 (ci := 8) rfl rfl (by decide) kLX_3 (As := []) (st := []) (ctX8_failHere n0 hO.2.2.2.2.2.2.1 _) (Nat.le_of_ble_eq_true rfl) rfl rfl (Nat.le_of_ble_eq_true rfl) dX4_readPalm_80 (fun z80 => ?_)
          exact b_zret hO dX4_readPalm_83
      · refine b_iconst hO dX4_readPalm_61 ic_i_0 ?_
        exact b_zretc hO (Or.inl rfl) dX4_readPalm_62
    · refine b_aload_n hO dX4_readPalm_25 1 rfl rfl ?_
      refine b_get hO flX4_14 kLX_1 (v := .ref (ad 3)) rfl dX4_readPalm_26 ?_
      refine b_iconst hO dX4_readPalm_29 ic_i_3 ?_
      refine b_aload_n hO dX4_readPalm_30 1 rfl rfl ?_
      refine b_get hO flX4_14 kLX_1 (v := .ref (ad 3)) rfl dX4_readPalm_31 ?_
      refine b_get hO flX4_60 kLX_3 (v := .int (gI _ 387)) rfl dX4_readPalm_34 ?_
      refine b_callVI hO mdX8_fail mvX8_fail w741 (ci := 8) rfl rfl (by decide) kLX_3 (As := [.int _, .int _]) (st := []) (ctX8_fail n0 hO.2.2.2.2.2.2.1 _ _ _) (Nat.le_of_ble_eq_true rfl) rfl rfl (Nat.le_of_ble_eq_true rfl) dX4_readPalm_37 (fun z37 => ?_)
      exact b_zret hO dX4_readPalm_40
  · refine b_iconst hO dX4_readPalm_10 ic_i_0 ?_
    exact b_zretc hO (Or.inl rfl) dX4_readPalm_11
theorem ctX4_readPalm (n0 : Nat) (hI : Inj LX ad) (M : Mem) : CT l LX D cy ad yX4_readPalm cX4_readPalm 3 (some .boolean) 5 (QI LX D cy ad) [.ref (ad 1)] M (fX4_readPalm n0 M) :=
  CT.mk LXok hI (by decide) (Nat.le_of_ble_eq_true rfl) (fun hO => tfX4_readPalm n0 hO M)
/-! X4_readDoing -/
def fX4_readDoing_68 (n0 : Nat) (x1 : Int32) (x2 : Int32) (u0 : Int32) (M : Mem) : Option (Int32 × Mem) :=
  if u0 = (-1 : Int32) then
    some ((0 : Int32), M)
  else
    (fX9_addDoing n0 (gR M 130) x1 x2 u0 M).bind fun z83 =>
    some ((1 : Int32), z83)
def fX4_readDoing (n0 : Nat) (M : Mem) : Option (Int32 × Mem) :=
  (fX4_newName n0 M).bind fun z1 =>
  if z1.1 = (-1 : Int32) then
    some ((0 : Int32), z1.2)
  else
    (fX8_skip n0 (270 : Int32) z1.2).bind fun z17 =>
    if z17.1 = 0 then
      some ((0 : Int32), z17.2)
    else
      (fX4_cornerHere n0 z17.2).bind fun z26 =>
      if z26.1 = (-1 : Int32) then
        some ((0 : Int32), z26.2)
      else
        (fX8_advance n0 z26.2).bind fun z41 =>
        (fX8_skip n0 (271 : Int32) z41).bind fun z51 =>
        if z51.1 = 0 then
          fX4_readDoing_68 n0 z1.1 z26.1 (-1 : Int32) z51.2
        else
          (fX4_number n0 (0 : Int32) (23 : Int32) z51.2).bind fun z61 =>
          fX4_readDoing_68 n0 z1.1 z26.1 z61.1 z61.2
theorem tfX4_readDoing_68 (n0 : Nat) (hO : OKc p (rmL 5) s m args meth c LX D cy ad cX4_readDoing RX4 4 5 (some .boolean)) (x1 : Int32) (x2 : Int32) (u0 : Int32) (M : Mem) : BL p l e (rmL 5) s m args below meth c LX D cy ad 4 (QI LX D cy ad) 68 [(0, .ref (ad 1)), (1, .int x1), (2, .int x2)] [.int u0] M (fX4_readDoing_68 n0 x1 x2 u0 M) := by
  unfold fX4_readDoing_68
  refine b_istore_n hO dX4_readDoing_68 rfl (by decide) (lv' := [(3, .int _), (0, .ref _), (1, .int _), (2, .int _)]) rfl ?_
  refine b_iload_n hO dX4_readDoing_69 0 rfl rfl ?_
  refine b_iconst hO dX4_readDoing_70 ic_i_m1 ?_
  refine b_icmp_ne hO dX4_readDoing_71 (tgt := 76) (by decide) ?_ ?_
  · refine b_aload_n hO dX4_readDoing_76 1 rfl rfl ?_
    refine b_getR hO flX4_35 kLX_1 (id := 130) rfl rfl (rk := 9) rfl (by decide) dX4_readDoing_77 (fun hg1 => ?_)
    refine b_iload_n hO dX4_readDoing_80 2 rfl rfl ?_
    refine b_iload_n hO dX4_readDoing_81 3 rfl rfl ?_
    refine b_iload_n hO dX4_readDoing_82 0 rfl rfl ?_
    refine b_callVV hO mdX9_addDoing mvX9_addDoing w819 (ci := 9) rfl rfl (by decide) hg1 (As := [.int _, .int _, .int _]) (st := []) (ctX9_addDoing n0 _ hg1 hO.2.2.2.2.2.2.1 _ _ _ _) (Nat.le_of_ble_eq_true rfl) rfl rfl (Nat.le_of_ble_eq_true rfl) dX4_readDoing_83 (fun z83 => ?_)
    refine b_iconst hO dX4_readDoing_86 ic_i_1 ?_
    exact b_zretc hO (Or.inr rfl) dX4_readDoing_87
  · refine b_iconst hO dX4_readDoing_74 ic_i_0 ?_
    exact b_zretc hO (Or.inl rfl) dX4_readDoing_75
theorem tfX4_readDoing (n0 : Nat) (hO : OKc p (rmL 5) s m args meth c LX D cy ad cX4_readDoing RX4 4 5 (some .boolean)) (M : Mem) : BL p l e (rmL 5) s m args below meth c LX D cy ad 4 (QI LX D cy ad) 0 [(0, .ref (ad 1))] [] M (fX4_readDoing n0 M) := by
  unfold fX4_readDoing
  refine b_aload_n hO dX4_readDoing_0 0 rfl rfl ?_
  refine b_callVI hO mdX4_newName mvX4_newName w750 (ci := 4) rfl rfl (by decide) kLX_1 (As := []) (st := []) (ctX4_newName n0 hO.2.2.2.2.2.2.1 _) (Nat.le_of_ble_eq_true rfl) rfl rfl (Nat.le_of_ble_eq_true rfl) dX4_readDoing_1 (fun z1 => ?_)
  refine b_istore_n hO dX4_readDoing_4 rfl (by decide) (lv' := [(1, .int _), (0, .ref _)]) rfl ?_
  refine b_iload_n hO dX4_readDoing_5 0 rfl rfl ?_
  refine b_iconst hO dX4_readDoing_6 ic_i_m1 ?_
  refine b_icmp_eq hO dX4_readDoing_7 (tgt := 23) (by decide) ?_ ?_
  · refine b_iconst hO dX4_readDoing_23 ic_i_0 ?_
    exact b_zretc hO (Or.inl rfl) dX4_readDoing_24
  · refine b_aload_n hO dX4_readDoing_10 1 rfl rfl ?_
    refine b_get hO flX4_14 kLX_1 (v := .ref (ad 3)) rfl dX4_readDoing_11 ?_
    refine b_sipush hO dX4_readDoing_14 ic_s_270 ?_
    refine b_callVI hO mdX8_skip mvX8_skip w774 (ci := 8) rfl rfl (by decide) kLX_3 (As := [.int _]) (st := []) (ctX8_skip n0 hO.2.2.2.2.2.2.1 _ _) (Nat.le_of_ble_eq_true rfl) rfl rfl (Nat.le_of_ble_eq_true rfl) dX4_readDoing_17 (fun z17 => ?_)
    refine b_if_ne hO dX4_readDoing_20 (tgt := 25) (by decide) ?_ ?_
    · refine b_aload_n hO dX4_readDoing_25 1 rfl rfl ?_
      refine b_callVI hO mdX4_cornerHere mvX4_cornerHere w799 (ci := 4) rfl rfl (by decide) kLX_1 (As := []) (st := []) (ctX4_cornerHere n0 hO.2.2.2.2.2.2.1 _) (Nat.le_of_ble_eq_true rfl) rfl rfl (Nat.le_of_ble_eq_true rfl) dX4_readDoing_26 (fun z26 => ?_)
      refine b_istore_n hO dX4_readDoing_29 rfl (by decide) (lv' := [(2, .int _), (1, .int _), (0, .ref _)]) rfl ?_
      refine b_iload_n hO dX4_readDoing_30 0 rfl rfl ?_
      refine b_iconst hO dX4_readDoing_31 ic_i_m1 ?_
      refine b_icmp_ne hO dX4_readDoing_32 (tgt := 37) (by decide) ?_ ?_
      · refine b_aload_n hO dX4_readDoing_37 2 rfl rfl ?_
        refine b_get hO flX4_14 kLX_1 (v := .ref (ad 3)) rfl dX4_readDoing_38 ?_
        refine b_callVV hO mdX8_advance mvX8_advance w745 (ci := 8) rfl rfl (by decide) kLX_3 (As := []) (st := []) (ctX8_advance n0 hO.2.2.2.2.2.2.1 _) (Nat.le_of_ble_eq_true rfl) rfl rfl (Nat.le_of_ble_eq_true rfl) dX4_readDoing_41 (fun z41 => ?_)
        refine b_aload_n hO dX4_readDoing_44 2 rfl rfl ?_
        refine b_get hO flX4_14 kLX_1 (v := .ref (ad 3)) rfl dX4_readDoing_45 ?_
        refine b_sipush hO dX4_readDoing_48 ic_s_271 ?_
        refine b_callVI hO mdX8_skip mvX8_skip w774 (ci := 8) rfl rfl (by decide) kLX_3 (As := [.int _]) (st := []) (ctX8_skip n0 hO.2.2.2.2.2.2.1 _ _) (Nat.le_of_ble_eq_true rfl) rfl rfl (Nat.le_of_ble_eq_true rfl) dX4_readDoing_51 (fun z51 => ?_)
        refine b_if_eq hO dX4_readDoing_54 (tgt := 67) (by decide) ?_ ?_
        · refine b_iconst hO dX4_readDoing_67 ic_i_m1 ?_
          refine b_sub [2, 1, 0] rfl ?_
          exact tfX4_readDoing_68 n0 hO _ _ _ _
        · refine b_aload_n hO dX4_readDoing_57 2 rfl rfl ?_
          refine b_iconst hO dX4_readDoing_58 ic_i_0 ?_
          refine b_bipush hO dX4_readDoing_59 ic_b_23 ?_
          refine b_callVI hO mdX4_number mvX4_number w779 (ci := 4) rfl rfl (by decide) kLX_1 (As := [.int _, .int _]) (st := []) (ctX4_number n0 hO.2.2.2.2.2.2.1 _ _ _) (Nat.le_of_ble_eq_true rfl) rfl rfl (Nat.le_of_ble_eq_true rfl) dX4_readDoing_61 (fun z61 => ?_)
          refine b_goto hO dX4_readDoing_64 (tgt := 68) (by decide) ?_
          refine b_sub [2, 1, 0] rfl ?_
          exact tfX4_readDoing_68 n0 hO _ _ _ _
      · refine b_iconst hO dX4_readDoing_35 ic_i_0 ?_
        exact b_zretc hO (Or.inl rfl) dX4_readDoing_36
    · refine b_iconst hO dX4_readDoing_23 ic_i_0 ?_
      exact b_zretc hO (Or.inl rfl) dX4_readDoing_24
theorem ctX4_readDoing (n0 : Nat) (hI : Inj LX ad) (M : Mem) : CT l LX D cy ad yX4_readDoing cX4_readDoing 4 (some .boolean) 5 (QI LX D cy ad) [.ref (ad 1)] M (fX4_readDoing n0 M) :=
  CT.mk LXok hI (by decide) (Nat.le_of_ble_eq_true rfl) (fun hO => tfX4_readDoing n0 hO M)
/-! X4_readPass -/
def fX4_readPass (n0 : Nat) (M : Mem) : Option (Int32 × Mem) :=
  (fX4_number n0 (0 : Int32) (100 : Int32) M).bind fun z4 =>
  if z4.1 = (-1 : Int32) then
    some ((0 : Int32), z4.2)
  else
    bnd (sI z4.2 (128 * (gR z4.2 130) + 16) z4.1) fun M20 =>
    some ((1 : Int32), M20)
theorem tfX4_readPass (n0 : Nat) (hO : OKc p (rmL 5) s m args meth c LX D cy ad cX4_readPass RX4 2 5 (some .boolean)) (M : Mem) : BL p l e (rmL 5) s m args below meth c LX D cy ad 2 (QI LX D cy ad) 0 [(0, .ref (ad 1))] [] M (fX4_readPass n0 M) := by
  unfold fX4_readPass
  refine b_aload_n hO dX4_readPass_0 0 rfl rfl ?_
  refine b_iconst hO dX4_readPass_1 ic_i_0 ?_
  refine b_bipush hO dX4_readPass_2 ic_b_100 ?_
  refine b_callVI hO mdX4_number mvX4_number w779 (ci := 4) rfl rfl (by decide) kLX_1 (As := [.int _, .int _]) (st := []) (ctX4_number n0 hO.2.2.2.2.2.2.1 _ _ _) (Nat.le_of_ble_eq_true rfl) rfl rfl (Nat.le_of_ble_eq_true rfl) dX4_readPass_4 (fun z4 => ?_)
  refine b_istore_n hO dX4_readPass_7 rfl (by decide) (lv' := [(1, .int _), (0, .ref _)]) rfl ?_
  refine b_iload_n hO dX4_readPass_8 0 rfl rfl ?_
  refine b_iconst hO dX4_readPass_9 ic_i_m1 ?_
  refine b_icmp_ne hO dX4_readPass_10 (tgt := 15) (by decide) ?_ ?_
  · refine b_aload_n hO dX4_readPass_15 1 rfl rfl ?_
    refine b_getR hO flX4_35 kLX_1 (id := 130) rfl rfl (rk := 9) rfl (by decide) dX4_readPass_16 (fun hg1 => ?_)
    refine b_iload_n hO dX4_readPass_19 0 rfl rfl ?_
    refine b_putI hO flX4_161 hg1 rfl rfl rfl (id := (128 * (gR z4.2 130) + 16)) rfl dX4_readPass_20 ?_
    refine b_bnd (fun M20 => ?_)
    refine b_iconst hO dX4_readPass_23 ic_i_1 ?_
    exact b_zretc hO (Or.inr rfl) dX4_readPass_24
  · refine b_iconst hO dX4_readPass_13 ic_i_0 ?_
    exact b_zretc hO (Or.inl rfl) dX4_readPass_14
theorem ctX4_readPass (n0 : Nat) (hI : Inj LX ad) (M : Mem) : CT l LX D cy ad yX4_readPass cX4_readPass 2 (some .boolean) 5 (QI LX D cy ad) [.ref (ad 1)] M (fX4_readPass n0 M) :=
  CT.mk LXok hI (by decide) (Nat.le_of_ble_eq_true rfl) (fun hO => tfX4_readPass n0 hO M)
/-! X4_readStatement -/
def fX4_readStatement_98 (n0 : Nat) (u1 : Int32) (M : Mem) : Option (Int32 × Mem) :=
  (fX4_skipFirst n0 u1 M).bind fun z98 =>
  if z98.1 = 0 then
    some ((0 : Int32), z98.2)
  else
    (fX4_readThing n0 z98.2).bind fun z105 =>
    if z105.1 = 0 then
      some ((0 : Int32), z105.2)
    else
      some ((1 : Int32), z105.2)
def fX4_readStatement_134 (n0 : Nat) (u1 : Int32) (M : Mem) : Option (Int32 × Mem) :=
  (fX4_skipFirst n0 u1 M).bind fun z134 =>
  if z134.1 = 0 then
    some ((0 : Int32), z134.2)
  else
    (fX4_readCorner n0 z134.2).bind fun z141 =>
    if z141.1 = 0 then
      some ((0 : Int32), z141.2)
    else
      some ((1 : Int32), z141.2)
def fX4_readStatement_171 (n0 : Nat) (u1 : Int32) (M : Mem) : Option (Int32 × Mem) :=
  (fX4_skipFirst n0 u1 M).bind fun z171 =>
  if z171.1 = 0 then
    some ((0 : Int32), z171.2)
  else
    (fX4_readRoad n0 z171.2).bind fun z178 =>
    if z178.1 = 0 then
      some ((0 : Int32), z178.2)
    else
      some ((1 : Int32), z178.2)
def fX4_readStatement_229 (n0 : Nat) (u1 : Int32) (M : Mem) : Option (Int32 × Mem) :=
  (fX4_skipFirst n0 u1 M).bind fun z229 =>
  if z229.1 = 0 then
    some ((0 : Int32), z229.2)
  else
    (fX4_readDoing n0 z229.2).bind fun z236 =>
    if z236.1 = 0 then
      some ((0 : Int32), z236.2)
    else
      some ((1 : Int32), z236.2)
def fX4_readStatement_267 (n0 : Nat) (u1 : Int32) (M : Mem) : Option (Int32 × Mem) :=
  (fX4_skipFirst n0 u1 M).bind fun z267 =>
  if z267.1 = 0 then
    some ((0 : Int32), z267.2)
  else
    (fX3_readSays n0 ((gR z267.2 130) + 12) z267.2).bind fun z284 =>
    if z284.1 = 0 then
      some ((0 : Int32), z284.2)
    else
      some ((1 : Int32), z284.2)
def fX4_readStatement_315 (n0 : Nat) (u1 : Int32) (M : Mem) : Option (Int32 × Mem) :=
  (fX4_skipFirst n0 u1 M).bind fun z315 =>
  if z315.1 = 0 then
    some ((0 : Int32), z315.2)
  else
    (fX3_readGone n0 ((gR z315.2 130) + 14) z315.2).bind fun z332 =>
    if z332.1 = 0 then
      some ((0 : Int32), z332.2)
    else
      some ((1 : Int32), z332.2)
def fX4_readStatement_365 (n0 : Nat) (M : Mem) : Option (Int32 × Mem) :=
  (fX8_failHere n0 M).bind fun z369 =>
  if z369.1 = 0 ∨ z369.1 = 1 then some (z369.1, z369.2) else none
def fX4_readStatement (n0 : Nat) (M : Mem) : Option (Int32 × Mem) :=
  if (gI M 386) = 260 then
    if (6 : Int32) ≤ (gI M (128 * (gR M 130) + 1)) then
      fX4_readStatement_98 n0 (0 : Int32) M
    else
      fX4_readStatement_98 n0 (1 : Int32) M
  else
  if (gI M 386) = 261 then
    fX4_readStatement_365 n0 M
  else
  if (gI M 386) = 262 then
    fX4_readStatement_365 n0 M
  else
  if (gI M 386) = 263 then
    if (5 : Int32) ≤ (gI M (128 * (gR M 130) + 5)) then
      fX4_readStatement_134 n0 (0 : Int32) M
    else
      fX4_readStatement_134 n0 (1 : Int32) M
  else
  if (gI M 386) = 264 then
    if (10 : Int32) ≤ (gI M (128 * (gR M 130) + 8)) then
      fX4_readStatement_171 n0 (0 : Int32) M
    else
      fX4_readStatement_171 n0 (1 : Int32) M
  else
  if (gI M 386) = 265 then
    fX4_readStatement_365 n0 M
  else
  if (gI M 386) = 266 then
    fX4_readStatement_365 n0 M
  else
  if (gI M 386) = 267 then
    (fX4_skipFirst n0 (1 : Int32) M).bind fun z192 =>
    if z192.1 = 0 then
      some ((0 : Int32), z192.2)
    else
      (fX4_readPalm n0 z192.2).bind fun z199 =>
      if z199.1 = 0 then
        some ((0 : Int32), z199.2)
      else
        some ((1 : Int32), z199.2)
  else
  if (gI M 386) = 268 then
    fX4_readStatement_365 n0 M
  else
  if (gI M 386) = 269 then
    if (6 : Int32) ≤ (gI M (128 * (gR M 130) + 12)) then
      fX4_readStatement_229 n0 (0 : Int32) M
    else
      fX4_readStatement_229 n0 (1 : Int32) M
  else
  if (gI M 386) = 270 then
    fX4_readStatement_365 n0 M
  else
  if (gI M 386) = 271 then
    fX4_readStatement_365 n0 M
  else
  if (gI M 386) = 272 then
    (fX0_isTold n0 ((gR M 130) + 12) M).bind fun z256 =>
    if z256.1 = 0 then
      fX4_readStatement_267 n0 (1 : Int32) z256.2
    else
      fX4_readStatement_267 n0 (0 : Int32) z256.2
  else
  if (gI M 386) = 273 then
    (fX0_isTold n0 ((gR M 130) + 14) M).bind fun z304 =>
    if z304.1 = 0 then
      fX4_readStatement_315 n0 (1 : Int32) z304.2
    else
      fX4_readStatement_315 n0 (0 : Int32) z304.2
  else
  if (gI M 386) = 274 then
    (fX4_skipFirst n0 (1 : Int32) M).bind fun z346 =>
    if z346.1 = 0 then
      some ((0 : Int32), z346.2)
    else
      (fX4_readPass n0 z346.2).bind fun z353 =>
      if z353.1 = 0 then
        some ((0 : Int32), z353.2)
      else
        some ((1 : Int32), z353.2)
  else
  fX4_readStatement_365 n0 M
theorem tfX4_readStatement_98 (n0 : Nat) (hO : OKc p (rmL 107) s m args meth c LX D cy ad cX4_readStatement RX4 1 107 (some .boolean)) (u1 : Int32) (M : Mem) : BL p l e (rmL 107) s m args below meth c LX D cy ad 1 (QI LX D cy ad) 98 [(0, .ref (ad 1))] [.int u1, .ref (ad 1)] M (fX4_readStatement_98 n0 u1 M) := by
  unfold fX4_readStatement_98
  refine b_callVI hO mdX4_skipFirst mvX4_skipFirst w737 (ci := 4) rfl rfl (by decide) kLX_1 (As := [.int _]) (st := []) (ctX4_skipFirst n0 hO.2.2.2.2.2.2.1 _ _) (Nat.le_of_ble_eq_true rfl) rfl rfl (Nat.le_of_ble_eq_true rfl) dX4_readStatement_98 (fun z98 => ?_)
  refine b_if_eq hO dX4_readStatement_101 (tgt := 115) (by decide) ?_ ?_
  · refine b_iconst hO dX4_readStatement_115 ic_i_0 ?_
    exact b_zretc hO (Or.inl rfl) dX4_readStatement_116
  · refine b_aload_n hO dX4_readStatement_104 0 rfl rfl ?_
    refine b_callVI hO mdX4_readThing mvX4_readThing w746 (ci := 4) rfl rfl (by decide) kLX_1 (As := []) (st := []) (ctX4_readThing n0 hO.2.2.2.2.2.2.1 _) (Nat.le_of_ble_eq_true rfl) rfl rfl (Nat.le_of_ble_eq_true rfl) dX4_readStatement_105 (fun z105 => ?_)
    refine b_if_eq hO dX4_readStatement_108 (tgt := 115) (by decide) ?_ ?_
    · refine b_iconst hO dX4_readStatement_115 ic_i_0 ?_
      exact b_zretc hO (Or.inl rfl) dX4_readStatement_116
    · refine b_iconst hO dX4_readStatement_111 ic_i_1 ?_
      refine b_goto hO dX4_readStatement_112 (tgt := 116) (by decide) ?_
      exact b_zretc hO (Or.inr rfl) dX4_readStatement_116
theorem tfX4_readStatement_134 (n0 : Nat) (hO : OKc p (rmL 107) s m args meth c LX D cy ad cX4_readStatement RX4 1 107 (some .boolean)) (u1 : Int32) (M : Mem) : BL p l e (rmL 107) s m args below meth c LX D cy ad 1 (QI LX D cy ad) 134 [(0, .ref (ad 1))] [.int u1, .ref (ad 1)] M (fX4_readStatement_134 n0 u1 M) := by
  unfold fX4_readStatement_134
  refine b_callVI hO mdX4_skipFirst mvX4_skipFirst w737 (ci := 4) rfl rfl (by decide) kLX_1 (As := [.int _]) (st := []) (ctX4_skipFirst n0 hO.2.2.2.2.2.2.1 _ _) (Nat.le_of_ble_eq_true rfl) rfl rfl (Nat.le_of_ble_eq_true rfl) dX4_readStatement_134 (fun z134 => ?_)
  refine b_if_eq hO dX4_readStatement_137 (tgt := 151) (by decide) ?_ ?_
  · refine b_iconst hO dX4_readStatement_151 ic_i_0 ?_
    exact b_zretc hO (Or.inl rfl) dX4_readStatement_152
  · refine b_aload_n hO dX4_readStatement_140 0 rfl rfl ?_
    refine b_callVI hO mdX4_readCorner mvX4_readCorner w787 (ci := 4) rfl rfl (by decide) kLX_1 (As := []) (st := []) (ctX4_readCorner n0 hO.2.2.2.2.2.2.1 _) (Nat.le_of_ble_eq_true rfl) rfl rfl (Nat.le_of_ble_eq_true rfl) dX4_readStatement_141 (fun z141 => ?_)
    refine b_if_eq hO dX4_readStatement_144 (tgt := 151) (by decide) ?_ ?_
    · refine b_iconst hO dX4_readStatement_151 ic_i_0 ?_
      exact b_zretc hO (Or.inl rfl) dX4_readStatement_152
    · refine b_iconst hO dX4_readStatement_147 ic_i_1 ?_
      refine b_goto hO dX4_readStatement_148 (tgt := 152) (by decide) ?_
      exact b_zretc hO (Or.inr rfl) dX4_readStatement_152
theorem tfX4_readStatement_171 (n0 : Nat) (hO : OKc p (rmL 107) s m args meth c LX D cy ad cX4_readStatement RX4 1 107 (some .boolean)) (u1 : Int32) (M : Mem) : BL p l e (rmL 107) s m args below meth c LX D cy ad 1 (QI LX D cy ad) 171 [(0, .ref (ad 1))] [.int u1, .ref (ad 1)] M (fX4_readStatement_171 n0 u1 M) := by
  unfold fX4_readStatement_171
  refine b_callVI hO mdX4_skipFirst mvX4_skipFirst w737 (ci := 4) rfl rfl (by decide) kLX_1 (As := [.int _]) (st := []) (ctX4_skipFirst n0 hO.2.2.2.2.2.2.1 _ _) (Nat.le_of_ble_eq_true rfl) rfl rfl (Nat.le_of_ble_eq_true rfl) dX4_readStatement_171 (fun z171 => ?_)
  refine b_if_eq hO dX4_readStatement_174 (tgt := 188) (by decide) ?_ ?_
  · refine b_iconst hO dX4_readStatement_188 ic_i_0 ?_
    exact b_zretc hO (Or.inl rfl) dX4_readStatement_189
  · refine b_aload_n hO dX4_readStatement_177 0 rfl rfl ?_
    refine b_callVI hO mdX4_readRoad mvX4_readRoad w795 (ci := 4) rfl rfl (by decide) kLX_1 (As := []) (st := []) (ctX4_readRoad n0 hO.2.2.2.2.2.2.1 _) (Nat.le_of_ble_eq_true rfl) rfl rfl (Nat.le_of_ble_eq_true rfl) dX4_readStatement_178 (fun z178 => ?_)
    refine b_if_eq hO dX4_readStatement_181 (tgt := 188) (by decide) ?_ ?_
    · refine b_iconst hO dX4_readStatement_188 ic_i_0 ?_
      exact b_zretc hO (Or.inl rfl) dX4_readStatement_189
    · refine b_iconst hO dX4_readStatement_184 ic_i_1 ?_
      refine b_goto hO dX4_readStatement_185 (tgt := 189) (by decide) ?_
      exact b_zretc hO (Or.inr rfl) dX4_readStatement_189
theorem tfX4_readStatement_229 (n0 : Nat) (hO : OKc p (rmL 107) s m args meth c LX D cy ad cX4_readStatement RX4 1 107 (some .boolean)) (u1 : Int32) (M : Mem) : BL p l e (rmL 107) s m args below meth c LX D cy ad 1 (QI LX D cy ad) 229 [(0, .ref (ad 1))] [.int u1, .ref (ad 1)] M (fX4_readStatement_229 n0 u1 M) := by
  unfold fX4_readStatement_229
  refine b_callVI hO mdX4_skipFirst mvX4_skipFirst w737 (ci := 4) rfl rfl (by decide) kLX_1 (As := [.int _]) (st := []) (ctX4_skipFirst n0 hO.2.2.2.2.2.2.1 _ _) (Nat.le_of_ble_eq_true rfl) rfl rfl (Nat.le_of_ble_eq_true rfl) dX4_readStatement_229 (fun z229 => ?_)
  refine b_if_eq hO dX4_readStatement_232 (tgt := 246) (by decide) ?_ ?_
  · refine b_iconst hO dX4_readStatement_246 ic_i_0 ?_
    exact b_zretc hO (Or.inl rfl) dX4_readStatement_247
  · refine b_aload_n hO dX4_readStatement_235 0 rfl rfl ?_
    refine b_callVI hO mdX4_readDoing mvX4_readDoing w815 (ci := 4) rfl rfl (by decide) kLX_1 (As := []) (st := []) (ctX4_readDoing n0 hO.2.2.2.2.2.2.1 _) (Nat.le_of_ble_eq_true rfl) rfl rfl (Nat.le_of_ble_eq_true rfl) dX4_readStatement_236 (fun z236 => ?_)
    refine b_if_eq hO dX4_readStatement_239 (tgt := 246) (by decide) ?_ ?_
    · refine b_iconst hO dX4_readStatement_246 ic_i_0 ?_
      exact b_zretc hO (Or.inl rfl) dX4_readStatement_247
    · refine b_iconst hO dX4_readStatement_242 ic_i_1 ?_
      refine b_goto hO dX4_readStatement_243 (tgt := 247) (by decide) ?_
      exact b_zretc hO (Or.inr rfl) dX4_readStatement_247
theorem tfX4_readStatement_267 (n0 : Nat) (hO : OKc p (rmL 107) s m args meth c LX D cy ad cX4_readStatement RX4 1 107 (some .boolean)) (u1 : Int32) (M : Mem) : BL p l e (rmL 107) s m args below meth c LX D cy ad 1 (QI LX D cy ad) 267 [(0, .ref (ad 1))] [.int u1, .ref (ad 1)] M (fX4_readStatement_267 n0 u1 M) := by
  unfold fX4_readStatement_267
  refine b_callVI hO mdX4_skipFirst mvX4_skipFirst w737 (ci := 4) rfl rfl (by decide) kLX_1 (As := [.int _]) (st := []) (ctX4_skipFirst n0 hO.2.2.2.2.2.2.1 _ _) (Nat.le_of_ble_eq_true rfl) rfl rfl (Nat.le_of_ble_eq_true rfl) dX4_readStatement_267 (fun z267 => ?_)
  refine b_if_eq hO dX4_readStatement_270 (tgt := 294) (by decide) ?_ ?_
  · refine b_iconst hO dX4_readStatement_294 ic_i_0 ?_
    exact b_zretc hO (Or.inl rfl) dX4_readStatement_295
  · refine b_aload_n hO dX4_readStatement_273 0 rfl rfl ?_
    refine b_get hO flX4_31 kLX_1 (v := .ref (ad 2)) rfl dX4_readStatement_274 ?_
    refine b_aload_n hO dX4_readStatement_277 0 rfl rfl ?_
    refine b_getR hO flX4_35 kLX_1 (id := 130) rfl rfl (rk := 9) rfl (by decide) dX4_readStatement_278 (fun hg1 => ?_)
    refine b_get hO flX4_22 hg1 (v := .ref (ad ((gR z267.2 130) + 12))) rfl dX4_readStatement_281 ?_
    refine b_callVI hO mdX3_readSays mvX3_readSays w824 (ci := 3) rfl rfl (by decide) kLX_2 (As := [.ref _]) (st := []) (ctX3_readSays n0 _ (kt_9_12 hg1) hO.2.2.2.2.2.2.1 _) (Nat.le_of_ble_eq_true rfl) rfl rfl (Nat.le_of_ble_eq_true rfl) dX4_readStatement_284 (fun z284 => ?_)
    refine b_if_eq hO dX4_readStatement_287 (tgt := 294) (by decide) ?_ ?_
    · refine b_iconst hO dX4_readStatement_294 ic_i_0 ?_
      exact b_zretc hO (Or.inl rfl) dX4_readStatement_295
    · refine b_iconst hO dX4_readStatement_290 ic_i_1 ?_
      refine b_goto hO dX4_readStatement_291 (tgt := 295) (by decide) ?_
      exact b_zretc hO (Or.inr rfl) dX4_readStatement_295
theorem tfX4_readStatement_315 (n0 : Nat) (hO : OKc p (rmL 107) s m args meth c LX D cy ad cX4_readStatement RX4 1 107 (some .boolean)) (u1 : Int32) (M : Mem) : BL p l e (rmL 107) s m args below meth c LX D cy ad 1 (QI LX D cy ad) 315 [(0, .ref (ad 1))] [.int u1, .ref (ad 1)] M (fX4_readStatement_315 n0 u1 M) := by
  unfold fX4_readStatement_315
  refine b_callVI hO mdX4_skipFirst mvX4_skipFirst w737 (ci := 4) rfl rfl (by decide) kLX_1 (As := [.int _]) (st := []) (ctX4_skipFirst n0 hO.2.2.2.2.2.2.1 _ _) (Nat.le_of_ble_eq_true rfl) rfl rfl (Nat.le_of_ble_eq_true rfl) dX4_readStatement_315 (fun z315 => ?_)
  refine b_if_eq hO dX4_readStatement_318 (tgt := 342) (by decide) ?_ ?_
  · refine b_iconst hO dX4_readStatement_342 ic_i_0 ?_
    exact b_zretc hO (Or.inl rfl) dX4_readStatement_343
  · refine b_aload_n hO dX4_readStatement_321 0 rfl rfl ?_
    refine b_get hO flX4_31 kLX_1 (v := .ref (ad 2)) rfl dX4_readStatement_322 ?_
    refine b_aload_n hO dX4_readStatement_325 0 rfl rfl ?_
    refine b_getR hO flX4_35 kLX_1 (id := 130) rfl rfl (rk := 9) rfl (by decide) dX4_readStatement_326 (fun hg1 => ?_)
    refine b_get hO flX4_107 hg1 (v := .ref (ad ((gR z315.2 130) + 14))) rfl dX4_readStatement_329 ?_
    refine b_callVI hO mdX3_readGone mvX3_readGone w896 (ci := 3) rfl rfl (by decide) kLX_2 (As := [.ref _]) (st := []) (ctX3_readGone n0 _ (kt_9_14 hg1) hO.2.2.2.2.2.2.1 _) (Nat.le_of_ble_eq_true rfl) rfl rfl (Nat.le_of_ble_eq_true rfl) dX4_readStatement_332 (fun z332 => ?_)
    refine b_if_eq hO dX4_readStatement_335 (tgt := 342) (by decide) ?_ ?_
    · refine b_iconst hO dX4_readStatement_342 ic_i_0 ?_
      exact b_zretc hO (Or.inl rfl) dX4_readStatement_343
    · refine b_iconst hO dX4_readStatement_338 ic_i_1 ?_
      refine b_goto hO dX4_readStatement_339 (tgt := 343) (by decide) ?_
      exact b_zretc hO (Or.inr rfl) dX4_readStatement_343
theorem tfX4_readStatement_365 (n0 : Nat) (hO : OKc p (rmL 107) s m args meth c LX D cy ad cX4_readStatement RX4 1 107 (some .boolean)) (M : Mem) : BL p l e (rmL 107) s m args below meth c LX D cy ad 1 (QI LX D cy ad) 365 [(0, .ref (ad 1))] [] M (fX4_readStatement_365 n0 M) := by
  unfold fX4_readStatement_365
  refine b_aload_n hO dX4_readStatement_365 0 rfl rfl ?_
  refine b_get hO flX4_14 kLX_1 (v := .ref (ad 3)) rfl dX4_readStatement_366 ?_
  refine b_callVI hO mdX8_failHere mvX8_failHere w754 (ci := 8) rfl rfl (by decide) kLX_3 (As := []) (st := []) (ctX8_failHere n0 hO.2.2.2.2.2.2.1 _) (Nat.le_of_ble_eq_true rfl) rfl rfl (Nat.le_of_ble_eq_true rfl) dX4_readStatement_369 (fun z369 => ?_)
  exact b_zret hO dX4_readStatement_372
theorem tfX4_readStatement (n0 : Nat) (hO : OKc p (rmL 107) s m args meth c LX D cy ad cX4_readStatement RX4 1 107 (some .boolean)) (M : Mem) : BL p l e (rmL 107) s m args below meth c LX D cy ad 1 (QI LX D cy ad) 0 [(0, .ref (ad 1))] [] M (fX4_readStatement n0 M) := by
  unfold fX4_readStatement
  refine b_aload_n hO dX4_readStatement_0 0 rfl rfl ?_
  refine b_get hO flX4_14 kLX_1 (v := .ref (ad 3)) rfl dX4_readStatement_1 ?_
  refine b_get hO flX4_45 kLX_3 (v := .int (gI _ 386)) rfl dX4_readStatement_4 ?_
  refine b_tabIn hO dX4_readStatement_7 (v := 260) (z := 260) (tgt := 80) (by decide) (by decide) (by decide) rfl (by decide) ?_ (fun hn0 => ?_)
  · refine b_aload_n hO dX4_readStatement_80 0 rfl rfl ?_
    refine b_aload_n hO dX4_readStatement_81 0 rfl rfl ?_
    refine b_getR hO flX4_35 kLX_1 (id := 130) rfl rfl (rk := 9) rfl (by decide) dX4_readStatement_82 (fun hg1 => ?_)
    refine b_get hO flX4_67 hg1 (v := .int (gI _ (128 * (gR M 130) + 1))) rfl dX4_readStatement_85 ?_
    refine b_bipush hO dX4_readStatement_88 ic_b_6 ?_
    refine b_icmp_ge hO dX4_readStatement_90 (tgt := 97) (by decide) ?_ ?_
    · refine b_iconst hO dX4_readStatement_97 ic_i_0 ?_
      exact tfX4_readStatement_98 n0 hO _ _
    · refine b_iconst hO dX4_readStatement_93 ic_i_1 ?_
      refine b_goto hO dX4_readStatement_94 (tgt := 98) (by decide) ?_
      exact tfX4_readStatement_98 n0 hO _ _
  refine b_tabIn hO dX4_readStatement_7 (v := 261) (z := 261) (tgt := 365) (by decide) (by decide) (by decide) rfl (by decide) ?_ (fun hn1 => ?_)
  · exact tfX4_readStatement_365 n0 hO _
  refine b_tabIn hO dX4_readStatement_7 (v := 262) (z := 262) (tgt := 365) (by decide) (by decide) (by decide) rfl (by decide) ?_ (fun hn2 => ?_)
  · exact tfX4_readStatement_365 n0 hO _
  refine b_tabIn hO dX4_readStatement_7 (v := 263) (z := 263) (tgt := 117) (by decide) (by decide) (by decide) rfl (by decide) ?_ (fun hn3 => ?_)
  · refine b_aload_n hO dX4_readStatement_117 0 rfl rfl ?_
    refine b_aload_n hO dX4_readStatement_118 0 rfl rfl ?_
    refine b_getR hO flX4_35 kLX_1 (id := 130) rfl rfl (rk := 9) rfl (by decide) dX4_readStatement_119 (fun hg2 => ?_)
    refine b_get hO flX4_77 hg2 (v := .int (gI _ (128 * (gR M 130) + 5))) rfl dX4_readStatement_122 ?_
    refine b_iconst hO dX4_readStatement_125 ic_i_5 ?_
    refine b_icmp_ge hO dX4_readStatement_126 (tgt := 133) (by decide) ?_ ?_
    · refine b_iconst hO dX4_readStatement_133 ic_i_0 ?_
      exact tfX4_readStatement_134 n0 hO _ _
    · refine b_iconst hO dX4_readStatement_129 ic_i_1 ?_
      refine b_goto hO dX4_readStatement_130 (tgt := 134) (by decide) ?_
      exact tfX4_readStatement_134 n0 hO _ _
  refine b_tabIn hO dX4_readStatement_7 (v := 264) (z := 264) (tgt := 153) (by decide) (by decide) (by decide) rfl (by decide) ?_ (fun hn4 => ?_)
  · refine b_aload_n hO dX4_readStatement_153 0 rfl rfl ?_
    refine b_aload_n hO dX4_readStatement_154 0 rfl rfl ?_
    refine b_getR hO flX4_35 kLX_1 (id := 130) rfl rfl (rk := 9) rfl (by decide) dX4_readStatement_155 (fun hg3 => ?_)
    refine b_get hO flX4_83 hg3 (v := .int (gI _ (128 * (gR M 130) + 8))) rfl dX4_readStatement_158 ?_
    refine b_bipush hO dX4_readStatement_161 ic_b_10 ?_
    refine b_icmp_ge hO dX4_readStatement_163 (tgt := 170) (by decide) ?_ ?_
    · refine b_iconst hO dX4_readStatement_170 ic_i_0 ?_
      exact tfX4_readStatement_171 n0 hO _ _
    · refine b_iconst hO dX4_readStatement_166 ic_i_1 ?_
      refine b_goto hO dX4_readStatement_167 (tgt := 171) (by decide) ?_
      exact tfX4_readStatement_171 n0 hO _ _
  refine b_tabIn hO dX4_readStatement_7 (v := 265) (z := 265) (tgt := 365) (by decide) (by decide) (by decide) rfl (by decide) ?_ (fun hn5 => ?_)
  · exact tfX4_readStatement_365 n0 hO _
  refine b_tabIn hO dX4_readStatement_7 (v := 266) (z := 266) (tgt := 365) (by decide) (by decide) (by decide) rfl (by decide) ?_ (fun hn6 => ?_)
  · exact tfX4_readStatement_365 n0 hO _
  refine b_tabIn hO dX4_readStatement_7 (v := 267) (z := 267) (tgt := 190) (by decide) (by decide) (by decide) rfl (by decide) ?_ (fun hn7 => ?_)
  · refine b_aload_n hO dX4_readStatement_190 0 rfl rfl ?_
    refine b_iconst hO dX4_readStatement_191 ic_i_1 ?_
    refine b_callVI hO mdX4_skipFirst mvX4_skipFirst w737 (ci := 4) rfl rfl (by decide) kLX_1 (As := [.int _]) (st := []) (ctX4_skipFirst n0 hO.2.2.2.2.2.2.1 _ _) (Nat.le_of_ble_eq_true rfl) rfl rfl (Nat.le_of_ble_eq_true rfl) dX4_readStatement_192 (fun z192 => ?_)
    refine b_if_eq hO dX4_readStatement_195 (tgt := 209) (by decide) ?_ ?_
    · refine b_iconst hO dX4_readStatement_209 ic_i_0 ?_
      exact b_zretc hO (Or.inl rfl) dX4_readStatement_210
    · refine b_aload_n hO dX4_readStatement_198 0 rfl rfl ?_
      refine b_callVI hO mdX4_readPalm mvX4_readPalm w811 (ci := 4) rfl rfl (by decide) kLX_1 (As := []) (st := []) (ctX4_readPalm n0 hO.2.2.2.2.2.2.1 _) (Nat.le_of_ble_eq_true rfl) rfl rfl (Nat.le_of_ble_eq_true rfl) dX4_readStatement_199 (fun z199 => ?_)
      refine b_if_eq hO dX4_readStatement_202 (tgt := 209) (by decide) ?_ ?_
      · refine b_iconst hO dX4_readStatement_209 ic_i_0 ?_
        exact b_zretc hO (Or.inl rfl) dX4_readStatement_210
      · refine b_iconst hO dX4_readStatement_205 ic_i_1 ?_
        refine b_goto hO dX4_readStatement_206 (tgt := 210) (by decide) ?_
        exact b_zretc hO (Or.inr rfl) dX4_readStatement_210
  refine b_tabIn hO dX4_readStatement_7 (v := 268) (z := 268) (tgt := 365) (by decide) (by decide) (by decide) rfl (by decide) ?_ (fun hn8 => ?_)
  · exact tfX4_readStatement_365 n0 hO _
  refine b_tabIn hO dX4_readStatement_7 (v := 269) (z := 269) (tgt := 211) (by decide) (by decide) (by decide) rfl (by decide) ?_ (fun hn9 => ?_)
  · refine b_aload_n hO dX4_readStatement_211 0 rfl rfl ?_
    refine b_aload_n hO dX4_readStatement_212 0 rfl rfl ?_
    refine b_getR hO flX4_35 kLX_1 (id := 130) rfl rfl (rk := 9) rfl (by decide) dX4_readStatement_213 (fun hg4 => ?_)
    refine b_get hO flX4_92 hg4 (v := .int (gI _ (128 * (gR M 130) + 12))) rfl dX4_readStatement_216 ?_
    refine b_bipush hO dX4_readStatement_219 ic_b_6 ?_
    refine b_icmp_ge hO dX4_readStatement_221 (tgt := 228) (by decide) ?_ ?_
    · refine b_iconst hO dX4_readStatement_228 ic_i_0 ?_
      exact tfX4_readStatement_229 n0 hO _ _
    · refine b_iconst hO dX4_readStatement_224 ic_i_1 ?_
      refine b_goto hO dX4_readStatement_225 (tgt := 229) (by decide) ?_
      exact tfX4_readStatement_229 n0 hO _ _
  refine b_tabIn hO dX4_readStatement_7 (v := 270) (z := 270) (tgt := 365) (by decide) (by decide) (by decide) rfl (by decide) ?_ (fun hn10 => ?_)
  · exact tfX4_readStatement_365 n0 hO _
  refine b_tabIn hO dX4_readStatement_7 (v := 271) (z := 271) (tgt := 365) (by decide) (by decide) (by decide) rfl (by decide) ?_ (fun hn11 => ?_)
  · exact tfX4_readStatement_365 n0 hO _
  refine b_tabIn hO dX4_readStatement_7 (v := 272) (z := 272) (tgt := 248) (by decide) (by decide) (by decide) rfl (by decide) ?_ (fun hn12 => ?_)
  · refine b_aload_n hO dX4_readStatement_248 0 rfl rfl ?_
    refine b_aload_n hO dX4_readStatement_249 0 rfl rfl ?_
    refine b_getR hO flX4_35 kLX_1 (id := 130) rfl rfl (rk := 9) rfl (by decide) dX4_readStatement_250 (fun hg5 => ?_)
    refine b_get hO flX4_22 hg5 (v := .ref (ad ((gR M 130) + 12))) rfl dX4_readStatement_253 ?_
    refine b_callVI hO mdX0_isTold mvX0_isTold w823 (ci := 0) rfl rfl (by decide) (kt_9_12 hg5) (As := []) (st := [.ref _]) (ctX0_isTold n0 _ (kt_9_12 hg5) hO.2.2.2.2.2.2.1 _) (Nat.le_of_ble_eq_true rfl) rfl rfl (Nat.le_of_ble_eq_true rfl) dX4_readStatement_256 (fun z256 => ?_)
    refine b_if_ne hO dX4_readStatement_259 (tgt := 266) (by decide) ?_ ?_
    · refine b_iconst hO dX4_readStatement_266 ic_i_0 ?_
      exact tfX4_readStatement_267 n0 hO _ _
    · refine b_iconst hO dX4_readStatement_262 ic_i_1 ?_
      refine b_goto hO dX4_readStatement_263 (tgt := 267) (by decide) ?_
      exact tfX4_readStatement_267 n0 hO _ _
  refine b_tabIn hO dX4_readStatement_7 (v := 273) (z := 273) (tgt := 296) (by decide) (by decide) (by decide) rfl (by decide) ?_ (fun hn13 => ?_)
  · refine b_aload_n hO dX4_readStatement_296 0 rfl rfl ?_
    refine b_aload_n hO dX4_readStatement_297 0 rfl rfl ?_
    refine b_getR hO flX4_35 kLX_1 (id := 130) rfl rfl (rk := 9) rfl (by decide) dX4_readStatement_298 (fun hg6 => ?_)
    refine b_get hO flX4_107 hg6 (v := .ref (ad ((gR M 130) + 14))) rfl dX4_readStatement_301 ?_
    refine b_callVI hO mdX0_isTold mvX0_isTold w823 (ci := 0) rfl rfl (by decide) (kt_9_14 hg6) (As := []) (st := [.ref _]) (ctX0_isTold n0 _ (kt_9_14 hg6) hO.2.2.2.2.2.2.1 _) (Nat.le_of_ble_eq_true rfl) rfl rfl (Nat.le_of_ble_eq_true rfl) dX4_readStatement_304 (fun z304 => ?_)
    refine b_if_ne hO dX4_readStatement_307 (tgt := 314) (by decide) ?_ ?_
    · refine b_iconst hO dX4_readStatement_314 ic_i_0 ?_
      exact tfX4_readStatement_315 n0 hO _ _
    · refine b_iconst hO dX4_readStatement_310 ic_i_1 ?_
      refine b_goto hO dX4_readStatement_311 (tgt := 315) (by decide) ?_
      exact tfX4_readStatement_315 n0 hO _ _
  refine b_tabIn hO dX4_readStatement_7 (v := 274) (z := 274) (tgt := 344) (by decide) (by decide) (by decide) rfl (by decide) ?_ (fun hn14 => ?_)
  · refine b_aload_n hO dX4_readStatement_344 0 rfl rfl ?_
    refine b_iconst hO dX4_readStatement_345 ic_i_1 ?_
    refine b_callVI hO mdX4_skipFirst mvX4_skipFirst w737 (ci := 4) rfl rfl (by decide) kLX_1 (As := [.int _]) (st := []) (ctX4_skipFirst n0 hO.2.2.2.2.2.2.1 _ _) (Nat.le_of_ble_eq_true rfl) rfl rfl (Nat.le_of_ble_eq_true rfl) dX4_readStatement_346 (fun z346 => ?_)
    refine b_if_eq hO dX4_readStatement_349 (tgt := 363) (by decide) ?_ ?_
    · refine b_iconst hO dX4_readStatement_363 ic_i_0 ?_
      exact b_zretc hO (Or.inl rfl) dX4_readStatement_364
    · refine b_aload_n hO dX4_readStatement_352 0 rfl rfl ?_
      refine b_callVI hO mdX4_readPass mvX4_readPass w900 (ci := 4) rfl rfl (by decide) kLX_1 (As := []) (st := []) (ctX4_readPass n0 hO.2.2.2.2.2.2.1 _) (Nat.le_of_ble_eq_true rfl) rfl rfl (Nat.le_of_ble_eq_true rfl) dX4_readStatement_353 (fun z353 => ?_)
      refine b_if_eq hO dX4_readStatement_356 (tgt := 363) (by decide) ?_ ?_
      · refine b_iconst hO dX4_readStatement_363 ic_i_0 ?_
        exact b_zretc hO (Or.inl rfl) dX4_readStatement_364
      · refine b_iconst hO dX4_readStatement_359 ic_i_1 ?_
        refine b_goto hO dX4_readStatement_360 (tgt := 364) (by decide) ?_
        exact b_zretc hO (Or.inr rfl) dX4_readStatement_364
  refine b_tabOut hO dX4_readStatement_7 (tgt := 365) (by omega) (by decide) ?_
  exact tfX4_readStatement_365 n0 hO _
theorem ctX4_readStatement (n0 : Nat) (hI : Inj LX ad) (M : Mem) : CT l LX D cy ad yX4_readStatement cX4_readStatement 1 (some .boolean) 107 (QI LX D cy ad) [.ref (ad 1)] M (fX4_readStatement n0 M) :=
  CT.mk LXok hI (by decide) (Nat.le_of_ble_eq_true rfl) (fun hO => tfX4_readStatement n0 hO M)
/-! X4_read -/
def fX4_read_80 (n0 : Nat) (q1 : Nat) (M : Mem) : Option (Int32 × Mem) :=
  if (gI M 386) = (259 : Int32) then
    some ((1 : Int32), M)
  else
    (fX8_fail n0 (6 : Int32) (gI M 387) M).bind fun z106 =>
    if z106.1 = 0 then
      some ((0 : Int32), z106.2)
    else
      some ((1 : Int32), z106.2)
def bX4_read_21 (n0 : Nat) (q1 : Nat) (k21 : Int32 → Mem → Option (Int32 × Mem)) (x2 : Int32) (M : Mem) : Option (Int32 × Mem) :=
  if (80 : Int32) ≤ x2 then
    fX4_read_80 n0 q1 M
  else
    if (gI M 386) = (259 : Int32) then
      fX4_read_80 n0 q1 M
    else
      (fX4_readStatement n0 M).bind fun z41 =>
      if z41.1 = 0 then
        some ((0 : Int32), z41.2)
      else
        (fX8_skip n0 (59 : Int32) z41.2).bind fun z53 =>
        if z53.1 = 0 then
          some ((0 : Int32), z53.2)
        else
          bnd (sI z53.2 (128 * (gR z53.2 130) + 0) ((gI z53.2 (128 * (gR z53.2 130) + 0)) + (1 : Int32))) fun M71 =>
          k21 (x2 + (1 : Int32)) M71
def fX4_read_21 (n0 : Nat) (q1 : Nat) : Int32 → Mem → Option (Int32 × Mem) := loopN (bX4_read_21 n0 q1) (fun _ _ => none) n0
def fX4_read (n0 : Nat) (q1 : Nat) (M : Mem) : Option (Int32 × Mem) :=
  bnd (sR M 130 q1) fun M2 =>
  (fX9_clear n0 (gR M2 130) M2).bind fun z9 =>
  (fX8_begin n0 z9).bind fun z16 =>
  fX4_read_21 n0 q1 (0 : Int32) z16
theorem tfX4_read_80 (n0 : Nat) (q1 : Nat) (hq1 : isK LX q1 9) (hO : OKc p (rmL 108) s m args meth c LX D cy ad cX4_read RX4 3 108 (some .boolean)) (M : Mem) : BL p l e (rmL 108) s m args below meth c LX D cy ad 3 (QI LX D cy ad) 80 [(0, .ref (ad 1))] [] M (fX4_read_80 n0 q1 M) := by
  unfold fX4_read_80
  refine b_aload_n hO dX4_read_80 0 rfl rfl ?_
  refine b_get hO flX4_14 kLX_1 (v := .ref (ad 3)) rfl dX4_read_81 ?_
  refine b_get hO flX4_45 kLX_3 (v := .int (gI _ 386)) rfl dX4_read_84 ?_
  refine b_sipush hO dX4_read_87 ic_s_259 ?_
  refine b_icmp_eq hO dX4_read_90 (tgt := 112) (by decide) ?_ ?_
  · refine b_iconst hO dX4_read_112 ic_i_1 ?_
    refine b_goto hO dX4_read_113 (tgt := 117) (by decide) ?_
    exact b_zretc hO (Or.inr rfl) dX4_read_117
  · refine b_aload_n hO dX4_read_93 0 rfl rfl ?_
    refine b_get hO flX4_14 kLX_1 (v := .ref (ad 3)) rfl dX4_read_94 ?_
    refine b_bipush hO dX4_read_97 ic_b_6 ?_
    refine b_aload_n hO dX4_read_99 0 rfl rfl ?_
    refine b_get hO flX4_14 kLX_1 (v := .ref (ad 3)) rfl dX4_read_100 ?_
    refine b_get hO flX4_60 kLX_3 (v := .int (gI _ 387)) rfl dX4_read_103 ?_
    refine b_callVI hO mdX8_fail mvX8_fail w741 (ci := 8) rfl rfl (by decide) kLX_3 (As := [.int _, .int _]) (st := []) (ctX8_fail n0 hO.2.2.2.2.2.2.1 _ _ _) (Nat.le_of_ble_eq_true rfl) rfl rfl (Nat.le_of_ble_eq_true rfl) dX4_read_106 (fun z106 => ?_)
    refine b_if_eq hO dX4_read_109 (tgt := 116) (by decide) ?_ ?_
    · refine b_iconst hO dX4_read_116 ic_i_0 ?_
      exact b_zretc hO (Or.inl rfl) dX4_read_117
    · refine b_iconst hO dX4_read_112 ic_i_1 ?_
      refine b_goto hO dX4_read_113 (tgt := 117) (by decide) ?_
      exact b_zretc hO (Or.inr rfl) dX4_read_117
theorem tbX4_read_21 (n0 : Nat) (q1 : Nat) (hq1 : isK LX q1 9) (hO : OKc p (rmL 108) s m args meth c LX D cy ad cX4_read RX4 3 108 (some .boolean)) (k21 : Int32 → Mem → Option (Int32 × Mem)) (hk21 : ∀ (x2 : Int32) (M : Mem), BL p l e (rmL 108) s m args below meth c LX D cy ad 3 (QI LX D cy ad) 21 [(0, .ref (ad 1)), (2, .int x2)] [] M (k21 x2 M)) (x2 : Int32) (M : Mem) : BL p l e (rmL 108) s m args below meth c LX D cy ad 3 (QI LX D cy ad) 21 [(0, .ref (ad 1)), (2, .int x2)] [] M (bX4_read_21 n0 q1 k21 x2 M) := by
  unfold bX4_read_21
  refine b_iload_n hO dX4_read_21 1 rfl rfl ?_
  refine b_bipush hO dX4_read_22 ic_b_80 ?_
  refine b_icmp_ge hO dX4_read_24 (tgt := 80) (by decide) ?_ ?_
  · refine b_sub [0] rfl ?_
    exact tfX4_read_80 n0 q1 hq1 hO _
  · refine b_aload_n hO dX4_read_27 0 rfl rfl ?_
    refine b_get hO flX4_14 kLX_1 (v := .ref (ad 3)) rfl dX4_read_28 ?_
    refine b_get hO flX4_45 kLX_3 (v := .int (gI _ 386)) rfl dX4_read_31 ?_
    refine b_sipush hO dX4_read_34 ic_s_259 ?_
    refine b_icmp_eq hO dX4_read_37 (tgt := 80) (by decide) ?_ ?_
    · refine b_sub [0] rfl ?_
      exact tfX4_read_80 n0 q1 hq1 hO _
    · refine b_aload_n hO dX4_read_40 0 rfl rfl ?_
      refine b_callVI hO mdX4_readStatement mvX4_readStatement w733 (ci := 4) rfl rfl (by decide) kLX_1 (As := []) (st := []) (ctX4_readStatement n0 hO.2.2.2.2.2.2.1 _) (Nat.le_of_ble_eq_true rfl) rfl rfl (Nat.le_of_ble_eq_true rfl) dX4_read_41 (fun z41 => ?_)
      refine b_if_eq hO dX4_read_44 (tgt := 59) (by decide) ?_ ?_
      · refine b_iconst hO dX4_read_59 ic_i_0 ?_
        exact b_zretc hO (Or.inl rfl) dX4_read_60
      · refine b_aload_n hO dX4_read_47 0 rfl rfl ?_
        refine b_get hO flX4_14 kLX_1 (v := .ref (ad 3)) rfl dX4_read_48 ?_
        refine b_bipush hO dX4_read_51 ic_b_59 ?_
        refine b_callVI hO mdX8_skip mvX8_skip w774 (ci := 8) rfl rfl (by decide) kLX_3 (As := [.int _]) (st := []) (ctX8_skip n0 hO.2.2.2.2.2.2.1 _ _) (Nat.le_of_ble_eq_true rfl) rfl rfl (Nat.le_of_ble_eq_true rfl) dX4_read_53 (fun z53 => ?_)
        refine b_if_ne hO dX4_read_56 (tgt := 61) (by decide) ?_ ?_
        · refine b_aload_n hO dX4_read_61 0 rfl rfl ?_
          refine b_getR hO flX4_35 kLX_1 (id := 130) rfl rfl (rk := 9) rfl (by decide) dX4_read_62 (fun hg1 => ?_)
          refine b_dup hO dX4_read_65 rfl ?_
          refine b_get hO flX4_57 hg1 (v := .int (gI _ (128 * (gR z53.2 130) + 0))) rfl dX4_read_66 ?_
          refine b_iconst hO dX4_read_69 ic_i_1 ?_
          refine b_iadd hO dX4_read_70 ?_
          refine b_putI hO flX4_57 hg1 rfl rfl rfl (id := (128 * (gR z53.2 130) + 0)) rfl dX4_read_71 ?_
          refine b_bnd (fun M71 => ?_)
          refine b_iinc hO dX4_read_74 1 rfl ic_i_1 (by decide) (lv' := [(2, .int _), (0, .ref _)]) rfl ?_
          refine b_goto hO dX4_read_77 (tgt := 21) (by decide) ?_
          refine b_sub [1, 0] rfl ?_
          exact hk21 _ _
        · refine b_iconst hO dX4_read_59 ic_i_0 ?_
          exact b_zretc hO (Or.inl rfl) dX4_read_60
theorem lX4_read_21 (n0 : Nat) (q1 : Nat) (hq1 : isK LX q1 9) (hO : OKc p (rmL 108) s m args meth c LX D cy ad cX4_read RX4 3 108 (some .boolean)) : ∀ (w : Nat) (x2 : Int32) (M : Mem), BL p l e (rmL 108) s m args below meth c LX D cy ad 3 (QI LX D cy ad) 21 [(0, .ref (ad 1)), (2, .int x2)] [] M (loopN (bX4_read_21 n0 q1) (fun _ _ => none) w x2 M) := by
  intro w
  induction w with
  | zero =>
    intros
    exact b_none
  | succ w ih =>
    intro x2 M
    exact tbX4_read_21 n0 q1 hq1 hO _ ih x2 M
theorem tfX4_read_21 (n0 : Nat) (q1 : Nat) (hq1 : isK LX q1 9) (hO : OKc p (rmL 108) s m args meth c LX D cy ad cX4_read RX4 3 108 (some .boolean)) (x2 : Int32) (M : Mem) : BL p l e (rmL 108) s m args below meth c LX D cy ad 3 (QI LX D cy ad) 21 [(0, .ref (ad 1)), (2, .int x2)] [] M (fX4_read_21 n0 q1 x2 M) := lX4_read_21 n0 q1 hq1 hO n0 x2 M
theorem tfX4_read (n0 : Nat) (q1 : Nat) (hq1 : isK LX q1 9) (hO : OKc p (rmL 108) s m args meth c LX D cy ad cX4_read RX4 3 108 (some .boolean)) (M : Mem) : BL p l e (rmL 108) s m args below meth c LX D cy ad 3 (QI LX D cy ad) 0 [(0, .ref (ad 1)), (1, .ref (ad q1))] [] M (fX4_read n0 q1 M) := by
  unfold fX4_read
  refine b_aload_n hO dX4_read_0 0 rfl rfl ?_
  refine b_aload_n hO dX4_read_1 1 rfl rfl ?_
  refine b_putR hO flX4_35 kLX_1 rfl (id := 130) rfl hq1 rfl rfl dX4_read_2 ?_
  refine b_bnd (fun M2 => ?_)
  refine b_aload_n hO dX4_read_5 0 rfl rfl ?_
  refine b_getR hO flX4_35 kLX_1 (id := 130) rfl rfl (rk := 9) rfl (by decide) dX4_read_6 (fun hg1 => ?_)
  refine b_callVV hO mdX9_clear mvX9_clear w691 (ci := 9) rfl rfl (by decide) hg1 (As := []) (st := []) (ctX9_clear n0 _ hg1 hO.2.2.2.2.2.2.1 _) (Nat.le_of_ble_eq_true rfl) rfl rfl (Nat.le_of_ble_eq_true rfl) dX4_read_9 (fun z9 => ?_)
  refine b_aload_n hO dX4_read_12 0 rfl rfl ?_
  refine b_get hO flX4_14 kLX_1 (v := .ref (ad 3)) rfl dX4_read_13 ?_
  refine b_callVV hO mdX8_begin mvX8_begin w695 (ci := 8) rfl rfl (by decide) kLX_3 (As := []) (st := []) (ctX8_begin n0 hO.2.2.2.2.2.2.1 _) (Nat.le_of_ble_eq_true rfl) rfl rfl (Nat.le_of_ble_eq_true rfl) dX4_read_16 (fun z16 => ?_)
  refine b_iconst hO dX4_read_19 ic_i_0 ?_
  refine b_istore_n hO dX4_read_20 rfl (by decide) (lv' := [(2, .int _), (0, .ref _), (1, .ref _)]) rfl ?_
  refine b_sub [1, 0] rfl ?_
  exact tfX4_read_21 n0 q1 hq1 hO _ _
theorem ctX4_read (n0 : Nat) (q1 : Nat) (hq1 : isK LX q1 9) (hI : Inj LX ad) (M : Mem) : CT l LX D cy ad yX4_read cX4_read 3 (some .boolean) 108 (QI LX D cy ad) [.ref (ad 1), .ref (ad q1)] M (fX4_read n0 q1 M) :=
  CT.mk LXok hI (by decide) (Nat.le_of_ble_eq_true rfl) (fun hO => tfX4_read n0 q1 hq1 hO M)
end
end
section
section
variable {p : Program} {l : Launch} {e : Env} {s : State} {m : MethodId} {args : Array Value} {below : List Frame} {meth : Method} {c : Code} {D : va_G} {cy : Nat → ClassId} {ad : Nat → Nat} {dd : Nat}

/-! X6_put -/
def fX6_put (n0 : Nat) (x1 : Int32) (x2 : Int32) (M : Mem) : Option (Mem) :=
  if x1 < 0 then
    some M
  else
    if (5 : Int32) ≤ x1 then
      some M
    else
      if oob x1 5 then none else
      bnd (sA M 11 (Int32.toNatClampNeg x1) x2) fun M15 =>
      if oob x1 5 then none else
      some (sA M15 12 (Int32.toNatClampNeg x1) (0 : Int32))
theorem tfX6_put (n0 : Nat) (hO : OKc p (rmL 1) s m args meth c LX D cy ad cX6_put RX6 3 1 none) (x1 : Int32) (x2 : Int32) (M : Mem) : BL p l e (rmL 1) s m args below meth c LX D cy ad 3 (QV LX D cy ad) 0 [(0, .ref (ad 10)), (1, .int x1), (2, .int x2)] [] M (fX6_put n0 x1 x2 M) := by
  unfold fX6_put
  refine b_iload_n hO dX6_put_0 1 rfl rfl ?_
  refine b_if_lt hO dX6_put_1 (tgt := 23) (by decide) ?_ ?_
  · exact b_vret hO dX6_put_23
  · refine b_iload_n hO dX6_put_4 1 rfl rfl ?_
    refine b_iconst hO dX6_put_5 ic_i_5 ?_
    refine b_icmp_ge hO dX6_put_6 (tgt := 23) (by decide) ?_ ?_
    · exact b_vret hO dX6_put_23
    · refine b_aload_n hO dX6_put_9 0 rfl rfl ?_
      refine b_get hO flX6_15 kLX_10 (v := .ref (ad 11)) rfl dX6_put_10 ?_
      refine b_iload_n hO dX6_put_13 1 rfl rfl ?_
      refine b_iload_n hO dX6_put_14 2 rfl rfl ?_
      refine b_iast hO kLX_11 (n := 5) rfl dX6_put_15 ?_
      refine b_bnd (fun M15 => ?_)
      refine b_aload_n hO dX6_put_16 0 rfl rfl ?_
      refine b_get hO flX6_19 kLX_10 (v := .ref (ad 12)) rfl dX6_put_17 ?_
      refine b_iload_n hO dX6_put_20 1 rfl rfl ?_
      refine b_iconst hO dX6_put_21 ic_i_0 ?_
      refine b_iast hO kLX_12 (n := 5) rfl dX6_put_22 ?_
      exact b_vret hO dX6_put_23
theorem ctX6_put (n0 : Nat) (hI : Inj LX ad) (x1 : Int32) (x2 : Int32) (M : Mem) : CT l LX D cy ad yX6_put cX6_put 3 none 1 (QV LX D cy ad) [.ref (ad 10), .int x1, .int x2] M (fX6_put n0 x1 x2 M) :=
  CT.mk LXok hI (by decide) (Nat.le_of_ble_eq_true rfl) (fun hO => tfX6_put n0 hO x1 x2 M)
/-! X6_begin -/
def bX6_begin_50 (n0 : Nat) (q1 : Nat) (k50 : Int32 → Mem → Option (Mem)) (x2 : Int32) (M : Mem) : Option (Mem) :=
  if (gI M (128 * (gR M 1280) + 12)) ≤ x2 then
    some M
  else
    if oob x2 6 then none else
    bnd (sA M 13 (Int32.toNatClampNeg x2) (0 : Int32)) fun M67 =>
    k50 (x2 + (1 : Int32)) M67
def fX6_begin_50 (n0 : Nat) (q1 : Nat) : Int32 → Mem → Option (Mem) := loopN (bX6_begin_50 n0 q1) (fun _ _ => none) n0
def bX6_begin_17 (n0 : Nat) (q1 : Nat) (k17 : Int32 → Mem → Option (Mem)) (x2 : Int32) (M : Mem) : Option (Mem) :=
  if (gI M (128 * (gR M 1280) + 5)) ≤ x2 then
    fX6_begin_50 n0 q1 (0 : Int32) M
  else
    if oob x2 5 then none else
    (fX6_put n0 x2 (gA M ((gR M 1280) + 5) (Int32.toNatClampNeg x2)) M).bind fun z39 =>
    k17 (x2 + (1 : Int32)) z39
def fX6_begin_17 (n0 : Nat) (q1 : Nat) : Int32 → Mem → Option (Mem) := loopN (bX6_begin_17 n0 q1) (fun _ _ => none) n0
def fX6_begin (n0 : Nat) (q1 : Nat) (M : Mem) : Option (Mem) :=
  bnd (sR M 1280 q1) fun M2 =>
  bnd (sI M2 1281 (0 : Int32)) fun M7 =>
  bnd (sI M7 1285 (0 : Int32)) fun M12 =>
  fX6_begin_17 n0 q1 (0 : Int32) M12
theorem tbX6_begin_50 (n0 : Nat) (q1 : Nat) (hq1 : isK LX q1 9) (hO : OKc p (rmL 2) s m args meth c LX D cy ad cX6_begin RX6 3 2 none) (k50 : Int32 → Mem → Option (Mem)) (hk50 : ∀ (x2 : Int32) (M : Mem), BL p l e (rmL 2) s m args below meth c LX D cy ad 3 (QV LX D cy ad) 50 [(0, .ref (ad 10)), (2, .int x2)] [] M (k50 x2 M)) (x2 : Int32) (M : Mem) : BL p l e (rmL 2) s m args below meth c LX D cy ad 3 (QV LX D cy ad) 50 [(0, .ref (ad 10)), (2, .int x2)] [] M (bX6_begin_50 n0 q1 k50 x2 M) := by
  unfold bX6_begin_50
  refine b_iload_n hO dX6_begin_50 1 rfl rfl ?_
  refine b_aload_n hO dX6_begin_51 0 rfl rfl ?_
  refine b_getR hO flX6_34 kLX_10 (id := 1280) rfl rfl (rk := 9) rfl (by decide) dX6_begin_52 (fun hg1 => ?_)
  refine b_get hO flX6_50 hg1 (v := .int (gI _ (128 * (gR M 1280) + 12))) rfl dX6_begin_55 ?_
  refine b_icmp_ge hO dX6_begin_58 (tgt := 74) (by decide) ?_ ?_
  · exact b_vret hO dX6_begin_74
  · refine b_aload_n hO dX6_begin_61 0 rfl rfl ?_
    refine b_get hO flX6_22 kLX_10 (v := .ref (ad 13)) rfl dX6_begin_62 ?_
    refine b_iload_n hO dX6_begin_65 1 rfl rfl ?_
    refine b_iconst hO dX6_begin_66 ic_i_0 ?_
    refine b_iast hO kLX_13 (n := 6) rfl dX6_begin_67 ?_
    refine b_bnd (fun M67 => ?_)
    refine b_iinc hO dX6_begin_68 1 rfl ic_i_1 (by decide) (lv' := [(2, .int _), (0, .ref _)]) rfl ?_
    refine b_goto hO dX6_begin_71 (tgt := 50) (by decide) ?_
    refine b_sub [1, 0] rfl ?_
    exact hk50 _ _
theorem lX6_begin_50 (n0 : Nat) (q1 : Nat) (hq1 : isK LX q1 9) (hO : OKc p (rmL 2) s m args meth c LX D cy ad cX6_begin RX6 3 2 none) : ∀ (w : Nat) (x2 : Int32) (M : Mem), BL p l e (rmL 2) s m args below meth c LX D cy ad 3 (QV LX D cy ad) 50 [(0, .ref (ad 10)), (2, .int x2)] [] M (loopN (bX6_begin_50 n0 q1) (fun _ _ => none) w x2 M) := by
  intro w
  induction w with
  | zero =>
    intros
    exact b_none
  | succ w ih =>
    intro x2 M
    exact tbX6_begin_50 n0 q1 hq1 hO _ ih x2 M
theorem tfX6_begin_50 (n0 : Nat) (q1 : Nat) (hq1 : isK LX q1 9) (hO : OKc p (rmL 2) s m args meth c LX D cy ad cX6_begin RX6 3 2 none) (x2 : Int32) (M : Mem) : BL p l e (rmL 2) s m args below meth c LX D cy ad 3 (QV LX D cy ad) 50 [(0, .ref (ad 10)), (2, .int x2)] [] M (fX6_begin_50 n0 q1 x2 M) := lX6_begin_50 n0 q1 hq1 hO n0 x2 M
theorem tbX6_begin_17 (n0 : Nat) (q1 : Nat) (hq1 : isK LX q1 9) (hO : OKc p (rmL 2) s m args meth c LX D cy ad cX6_begin RX6 3 2 none) (k17 : Int32 → Mem → Option (Mem)) (hk17 : ∀ (x2 : Int32) (M : Mem), BL p l e (rmL 2) s m args below meth c LX D cy ad 3 (QV LX D cy ad) 17 [(0, .ref (ad 10)), (2, .int x2)] [] M (k17 x2 M)) (x2 : Int32) (M : Mem) : BL p l e (rmL 2) s m args below meth c LX D cy ad 3 (QV LX D cy ad) 17 [(0, .ref (ad 10)), (2, .int x2)] [] M (bX6_begin_17 n0 q1 k17 x2 M) := by
  unfold bX6_begin_17
  refine b_iload_n hO dX6_begin_17 1 rfl rfl ?_
  refine b_aload_n hO dX6_begin_18 0 rfl rfl ?_
  refine b_getR hO flX6_34 kLX_10 (id := 1280) rfl rfl (rk := 9) rfl (by decide) dX6_begin_19 (fun hg1 => ?_)
  refine b_get hO flX6_38 hg1 (v := .int (gI _ (128 * (gR M 1280) + 5))) rfl dX6_begin_22 ?_
  refine b_icmp_ge hO dX6_begin_25 (tgt := 48) (by decide) ?_ ?_
  · refine b_iconst hO dX6_begin_48 ic_i_0 ?_
    refine b_istore_n hO dX6_begin_49 rfl (by decide) (lv' := [(2, .int _), (0, .ref _)]) rfl ?_
    refine b_sub [1, 0] rfl ?_
    exact tfX6_begin_50 n0 q1 hq1 hO _ _
  · refine b_aload_n hO dX6_begin_28 0 rfl rfl ?_
    refine b_iload_n hO dX6_begin_29 1 rfl rfl ?_
    refine b_aload_n hO dX6_begin_30 0 rfl rfl ?_
    refine b_getR hO flX6_34 kLX_10 (id := 1280) rfl rfl (rk := 9) rfl (by decide) dX6_begin_31 (fun hg2 => ?_)
    refine b_get hO flX6_43 hg2 (v := .ref (ad ((gR M 1280) + 5))) rfl dX6_begin_34 ?_
    refine b_iload_n hO dX6_begin_37 1 rfl rfl ?_
    refine b_iald hO (kt_9_5 hg2) (n := 5) (lt_9_5 hg2) dX6_begin_38 ?_
    refine b_callVV hO mdX6_put mvX6_put w548 (ci := 6) rfl rfl (by decide) kLX_10 (As := [.int _, .int _]) (st := []) (ctX6_put n0 hO.2.2.2.2.2.2.1 _ _ _) (Nat.le_of_ble_eq_true rfl) rfl rfl (Nat.le_of_ble_eq_true rfl) dX6_begin_39 (fun z39 => ?_)
    refine b_iinc hO dX6_begin_42 1 rfl ic_i_1 (by decide) (lv' := [(2, .int _), (0, .ref _)]) rfl ?_
    refine b_goto hO dX6_begin_45 (tgt := 17) (by decide) ?_
    refine b_sub [1, 0] rfl ?_
    exact hk17 _ _
theorem lX6_begin_17 (n0 : Nat) (q1 : Nat) (hq1 : isK LX q1 9) (hO : OKc p (rmL 2) s m args meth c LX D cy ad cX6_begin RX6 3 2 none) : ∀ (w : Nat) (x2 : Int32) (M : Mem), BL p l e (rmL 2) s m args below meth c LX D cy ad 3 (QV LX D cy ad) 17 [(0, .ref (ad 10)), (2, .int x2)] [] M (loopN (bX6_begin_17 n0 q1) (fun _ _ => none) w x2 M) := by
  intro w
  induction w with
  | zero =>
    intros
    exact b_none
  | succ w ih =>
    intro x2 M
    exact tbX6_begin_17 n0 q1 hq1 hO _ ih x2 M
theorem tfX6_begin_17 (n0 : Nat) (q1 : Nat) (hq1 : isK LX q1 9) (hO : OKc p (rmL 2) s m args meth c LX D cy ad cX6_begin RX6 3 2 none) (x2 : Int32) (M : Mem) : BL p l e (rmL 2) s m args below meth c LX D cy ad 3 (QV LX D cy ad) 17 [(0, .ref (ad 10)), (2, .int x2)] [] M (fX6_begin_17 n0 q1 x2 M) := lX6_begin_17 n0 q1 hq1 hO n0 x2 M
theorem tfX6_begin (n0 : Nat) (q1 : Nat) (hq1 : isK LX q1 9) (hO : OKc p (rmL 2) s m args meth c LX D cy ad cX6_begin RX6 3 2 none) (M : Mem) : BL p l e (rmL 2) s m args below meth c LX D cy ad 3 (QV LX D cy ad) 0 [(0, .ref (ad 10)), (1, .ref (ad q1))] [] M (fX6_begin n0 q1 M) := by
  unfold fX6_begin
  refine b_aload_n hO dX6_begin_0 0 rfl rfl ?_
  refine b_aload_n hO dX6_begin_1 1 rfl rfl ?_
  refine b_putR hO flX6_34 kLX_10 rfl (id := 1280) rfl hq1 rfl rfl dX6_begin_2 ?_
  refine b_bnd (fun M2 => ?_)
  refine b_aload_n hO dX6_begin_5 0 rfl rfl ?_
  refine b_iconst hO dX6_begin_6 ic_i_0 ?_
  refine b_putI hO flX6_9 kLX_10 rfl rfl rfl (id := 1281) rfl dX6_begin_7 ?_
  refine b_bnd (fun M7 => ?_)
  refine b_aload_n hO dX6_begin_10 0 rfl rfl ?_
  refine b_iconst hO dX6_begin_11 ic_i_0 ?_
  refine b_putI hO flX6_25 kLX_10 rfl rfl rfl (id := 1285) rfl dX6_begin_12 ?_
  refine b_bnd (fun M12 => ?_)
  refine b_iconst hO dX6_begin_15 ic_i_0 ?_
  refine b_istore_n hO dX6_begin_16 rfl (by decide) (lv' := [(2, .int _), (0, .ref _), (1, .ref _)]) rfl ?_
  refine b_sub [1, 0] rfl ?_
  exact tfX6_begin_17 n0 q1 hq1 hO _ _
theorem ctX6_begin (n0 : Nat) (q1 : Nat) (hq1 : isK LX q1 9) (hI : Inj LX ad) (M : Mem) : CT l LX D cy ad yX6_begin cX6_begin 3 none 2 (QV LX D cy ad) [.ref (ad 10), .ref (ad q1)] M (fX6_begin n0 q1 M) :=
  CT.mk LXok hI (by decide) (Nat.le_of_ble_eq_true rfl) (fun hO => tfX6_begin n0 q1 hq1 hO M)
/-! X6_countDone -/
def bX6_countDone_4 (n0 : Nat) (k4 : Int32 → Int32 → Mem → Option (Int32 × Mem)) (x1 : Int32) (x2 : Int32) (M : Mem) : Option (Int32 × Mem) :=
  if (gI M (128 * (gR M 1280) + 12)) ≤ x2 then
    some (x1, M)
  else
    if oob x2 6 then none else
    bnd (x1 + (gA M 13 (Int32.toNatClampNeg x2))) fun x1_23 =>
    k4 x1_23 (x2 + (1 : Int32)) M
def fX6_countDone_4 (n0 : Nat) : Int32 → Int32 → Mem → Option (Int32 × Mem) := loopN (bX6_countDone_4 n0) (fun _ _ _ => none) n0
def fX6_countDone (n0 : Nat) (M : Mem) : Option (Int32 × Mem) :=
  fX6_countDone_4 n0 (0 : Int32) (0 : Int32) M
theorem tbX6_countDone_4 (n0 : Nat) (hO : OKc p (rmL 1) s m args meth c LX D cy ad cX6_countDone RX6 3 1 (some .int)) (k4 : Int32 → Int32 → Mem → Option (Int32 × Mem)) (hk4 : ∀ (x1 : Int32) (x2 : Int32) (M : Mem), BL p l e (rmL 1) s m args below meth c LX D cy ad 3 (QI LX D cy ad) 4 [(0, .ref (ad 10)), (1, .int x1), (2, .int x2)] [] M (k4 x1 x2 M)) (x1 : Int32) (x2 : Int32) (M : Mem) : BL p l e (rmL 1) s m args below meth c LX D cy ad 3 (QI LX D cy ad) 4 [(0, .ref (ad 10)), (1, .int x1), (2, .int x2)] [] M (bX6_countDone_4 n0 k4 x1 x2 M) := by
  unfold bX6_countDone_4
  refine b_iload_n hO dX6_countDone_4 2 rfl rfl ?_
  refine b_aload_n hO dX6_countDone_5 0 rfl rfl ?_
  refine b_getR hO flX6_34 kLX_10 (id := 1280) rfl rfl (rk := 9) rfl (by decide) dX6_countDone_6 (fun hg1 => ?_)
  refine b_get hO flX6_50 hg1 (v := .int (gI _ (128 * (gR M 1280) + 12))) rfl dX6_countDone_9 ?_
  refine b_icmp_ge hO dX6_countDone_12 (tgt := 30) (by decide) ?_ ?_
  · refine b_iload_n hO dX6_countDone_30 1 rfl rfl ?_
    exact b_iret hO dX6_countDone_31
  · refine b_iload_n hO dX6_countDone_15 1 rfl rfl ?_
    refine b_aload_n hO dX6_countDone_16 0 rfl rfl ?_
    refine b_get hO flX6_22 kLX_10 (v := .ref (ad 13)) rfl dX6_countDone_17 ?_
    refine b_iload_n hO dX6_countDone_20 2 rfl rfl ?_
    refine b_iald hO kLX_13 (n := 6) rfl dX6_countDone_21 ?_
    refine b_iadd hO dX6_countDone_22 ?_
    refine b_topI (fun x1_23 => ?_)
    refine b_istore_n hO dX6_countDone_23 rfl (by decide) (lv' := [(1, .int _), (0, .ref _), (2, .int _)]) rfl ?_
    refine b_iinc hO dX6_countDone_24 2 rfl ic_i_1 (by decide) (lv' := [(2, .int _), (1, .int _), (0, .ref _)]) rfl ?_
    refine b_goto hO dX6_countDone_27 (tgt := 4) (by decide) ?_
    refine b_sub [2, 1, 0] rfl ?_
    exact hk4 _ _ _
theorem lX6_countDone_4 (n0 : Nat) (hO : OKc p (rmL 1) s m args meth c LX D cy ad cX6_countDone RX6 3 1 (some .int)) : ∀ (w : Nat) (x1 : Int32) (x2 : Int32) (M : Mem), BL p l e (rmL 1) s m args below meth c LX D cy ad 3 (QI LX D cy ad) 4 [(0, .ref (ad 10)), (1, .int x1), (2, .int x2)] [] M (loopN (bX6_countDone_4 n0) (fun _ _ _ => none) w x1 x2 M) := by
  intro w
  induction w with
  | zero =>
    intros
    exact b_none
  | succ w ih =>
    intro x1 x2 M
    exact tbX6_countDone_4 n0 hO _ ih x1 x2 M
theorem tfX6_countDone_4 (n0 : Nat) (hO : OKc p (rmL 1) s m args meth c LX D cy ad cX6_countDone RX6 3 1 (some .int)) (x1 : Int32) (x2 : Int32) (M : Mem) : BL p l e (rmL 1) s m args below meth c LX D cy ad 3 (QI LX D cy ad) 4 [(0, .ref (ad 10)), (1, .int x1), (2, .int x2)] [] M (fX6_countDone_4 n0 x1 x2 M) := lX6_countDone_4 n0 hO n0 x1 x2 M
theorem tfX6_countDone (n0 : Nat) (hO : OKc p (rmL 1) s m args meth c LX D cy ad cX6_countDone RX6 3 1 (some .int)) (M : Mem) : BL p l e (rmL 1) s m args below meth c LX D cy ad 3 (QI LX D cy ad) 0 [(0, .ref (ad 10))] [] M (fX6_countDone n0 M) := by
  unfold fX6_countDone
  refine b_iconst hO dX6_countDone_0 ic_i_0 ?_
  refine b_istore_n hO dX6_countDone_1 rfl (by decide) (lv' := [(1, .int _), (0, .ref _)]) rfl ?_
  refine b_iconst hO dX6_countDone_2 ic_i_0 ?_
  refine b_istore_n hO dX6_countDone_3 rfl (by decide) (lv' := [(2, .int _), (1, .int _), (0, .ref _)]) rfl ?_
  refine b_sub [2, 1, 0] rfl ?_
  exact tfX6_countDone_4 n0 hO _ _ _
theorem ctX6_countDone (n0 : Nat) (hI : Inj LX ad) (M : Mem) : CT l LX D cy ad yX6_countDone cX6_countDone 3 (some .int) 1 (QI LX D cy ad) [.ref (ad 10)] M (fX6_countDone n0 M) :=
  CT.mk LXok hI (by decide) (Nat.le_of_ble_eq_true rfl) (fun hO => tfX6_countDone n0 hO M)
/-! X6_countEmpty -/
def fX6_countEmpty_28 (n0 : Nat) (k4 : Int32 → Int32 → Mem → Option (Int32 × Mem)) (x1 : Int32) (x2 : Int32) (M : Mem) : Option (Int32 × Mem) :=
  k4 x1 (x2 + (1 : Int32)) M
def bX6_countEmpty_4 (n0 : Nat) (k4 : Int32 → Int32 → Mem → Option (Int32 × Mem)) (x1 : Int32) (x2 : Int32) (M : Mem) : Option (Int32 × Mem) :=
  if (gI M (128 * (gR M 1280) + 5)) ≤ x2 then
    some (x1, M)
  else
    if oob x2 5 then none else
    if (gA M 11 (Int32.toNatClampNeg x2)) = (-1 : Int32) then
      fX6_countEmpty_28 n0 k4 (x1 + (1 : Int32)) x2 M
    else
      fX6_countEmpty_28 n0 k4 x1 x2 M
def fX6_countEmpty_4 (n0 : Nat) : Int32 → Int32 → Mem → Option (Int32 × Mem) := loopN (bX6_countEmpty_4 n0) (fun _ _ _ => none) n0
def fX6_countEmpty (n0 : Nat) (M : Mem) : Option (Int32 × Mem) :=
  fX6_countEmpty_4 n0 (0 : Int32) (0 : Int32) M
theorem tfX6_countEmpty_28 (n0 : Nat) (hO : OKc p (rmL 1) s m args meth c LX D cy ad cX6_countEmpty RX6 3 1 (some .int)) (k4 : Int32 → Int32 → Mem → Option (Int32 × Mem)) (hk4 : ∀ (x1 : Int32) (x2 : Int32) (M : Mem), BL p l e (rmL 1) s m args below meth c LX D cy ad 3 (QI LX D cy ad) 4 [(0, .ref (ad 10)), (1, .int x1), (2, .int x2)] [] M (k4 x1 x2 M)) (x1 : Int32) (x2 : Int32) (M : Mem) : BL p l e (rmL 1) s m args below meth c LX D cy ad 3 (QI LX D cy ad) 28 [(0, .ref (ad 10)), (1, .int x1), (2, .int x2)] [] M (fX6_countEmpty_28 n0 k4 x1 x2 M) := by
  unfold fX6_countEmpty_28
  refine b_iinc hO dX6_countEmpty_28 2 rfl ic_i_1 (by decide) (lv' := [(2, .int _), (0, .ref _), (1, .int _)]) rfl ?_
  refine b_goto hO dX6_countEmpty_31 (tgt := 4) (by decide) ?_
  refine b_sub [1, 2, 0] rfl ?_
  exact hk4 _ _ _
theorem tbX6_countEmpty_4 (n0 : Nat) (hO : OKc p (rmL 1) s m args meth c LX D cy ad cX6_countEmpty RX6 3 1 (some .int)) (k4 : Int32 → Int32 → Mem → Option (Int32 × Mem)) (hk4 : ∀ (x1 : Int32) (x2 : Int32) (M : Mem), BL p l e (rmL 1) s m args below meth c LX D cy ad 3 (QI LX D cy ad) 4 [(0, .ref (ad 10)), (1, .int x1), (2, .int x2)] [] M (k4 x1 x2 M)) (x1 : Int32) (x2 : Int32) (M : Mem) : BL p l e (rmL 1) s m args below meth c LX D cy ad 3 (QI LX D cy ad) 4 [(0, .ref (ad 10)), (1, .int x1), (2, .int x2)] [] M (bX6_countEmpty_4 n0 k4 x1 x2 M) := by
  unfold bX6_countEmpty_4
  refine b_iload_n hO dX6_countEmpty_4 2 rfl rfl ?_
  refine b_aload_n hO dX6_countEmpty_5 0 rfl rfl ?_
  refine b_getR hO flX6_34 kLX_10 (id := 1280) rfl rfl (rk := 9) rfl (by decide) dX6_countEmpty_6 (fun hg1 => ?_)
  refine b_get hO flX6_38 hg1 (v := .int (gI _ (128 * (gR M 1280) + 5))) rfl dX6_countEmpty_9 ?_
  refine b_icmp_ge hO dX6_countEmpty_12 (tgt := 34) (by decide) ?_ ?_
  · refine b_iload_n hO dX6_countEmpty_34 1 rfl rfl ?_
    exact b_iret hO dX6_countEmpty_35
  · refine b_aload_n hO dX6_countEmpty_15 0 rfl rfl ?_
    refine b_get hO flX6_15 kLX_10 (v := .ref (ad 11)) rfl dX6_countEmpty_16 ?_
    refine b_iload_n hO dX6_countEmpty_19 2 rfl rfl ?_
    refine b_iald hO kLX_11 (n := 5) rfl dX6_countEmpty_20 ?_
    refine b_iconst hO dX6_countEmpty_21 ic_i_m1 ?_
    refine b_icmp_ne hO dX6_countEmpty_22 (tgt := 28) (by decide) ?_ ?_
    · exact tfX6_countEmpty_28 n0 hO k4 hk4 _ _ _
    · refine b_iinc hO dX6_countEmpty_25 1 rfl ic_i_1 (by decide) (lv' := [(1, .int _), (0, .ref _), (2, .int _)]) rfl ?_
      refine b_sub [1, 0, 2] rfl ?_
      exact tfX6_countEmpty_28 n0 hO k4 hk4 _ _ _
theorem lX6_countEmpty_4 (n0 : Nat) (hO : OKc p (rmL 1) s m args meth c LX D cy ad cX6_countEmpty RX6 3 1 (some .int)) : ∀ (w : Nat) (x1 : Int32) (x2 : Int32) (M : Mem), BL p l e (rmL 1) s m args below meth c LX D cy ad 3 (QI LX D cy ad) 4 [(0, .ref (ad 10)), (1, .int x1), (2, .int x2)] [] M (loopN (bX6_countEmpty_4 n0) (fun _ _ _ => none) w x1 x2 M) := by
  intro w
  induction w with
  | zero =>
    intros
    exact b_none
  | succ w ih =>
    intro x1 x2 M
    exact tbX6_countEmpty_4 n0 hO _ ih x1 x2 M
theorem tfX6_countEmpty_4 (n0 : Nat) (hO : OKc p (rmL 1) s m args meth c LX D cy ad cX6_countEmpty RX6 3 1 (some .int)) (x1 : Int32) (x2 : Int32) (M : Mem) : BL p l e (rmL 1) s m args below meth c LX D cy ad 3 (QI LX D cy ad) 4 [(0, .ref (ad 10)), (1, .int x1), (2, .int x2)] [] M (fX6_countEmpty_4 n0 x1 x2 M) := lX6_countEmpty_4 n0 hO n0 x1 x2 M
theorem tfX6_countEmpty (n0 : Nat) (hO : OKc p (rmL 1) s m args meth c LX D cy ad cX6_countEmpty RX6 3 1 (some .int)) (M : Mem) : BL p l e (rmL 1) s m args below meth c LX D cy ad 3 (QI LX D cy ad) 0 [(0, .ref (ad 10))] [] M (fX6_countEmpty n0 M) := by
  unfold fX6_countEmpty
  refine b_iconst hO dX6_countEmpty_0 ic_i_0 ?_
  refine b_istore_n hO dX6_countEmpty_1 rfl (by decide) (lv' := [(1, .int _), (0, .ref _)]) rfl ?_
  refine b_iconst hO dX6_countEmpty_2 ic_i_0 ?_
  refine b_istore_n hO dX6_countEmpty_3 rfl (by decide) (lv' := [(2, .int _), (1, .int _), (0, .ref _)]) rfl ?_
  refine b_sub [2, 1, 0] rfl ?_
  exact tfX6_countEmpty_4 n0 hO _ _ _
theorem ctX6_countEmpty (n0 : Nat) (hI : Inj LX ad) (M : Mem) : CT l LX D cy ad yX6_countEmpty cX6_countEmpty 3 (some .int) 1 (QI LX D cy ad) [.ref (ad 10)] M (fX6_countEmpty n0 M) :=
  CT.mk LXok hI (by decide) (Nat.le_of_ble_eq_true rfl) (fun hO => tfX6_countEmpty n0 hO M)
/-! X6_goOn -/
def bX6_goOn_2 (n0 : Nat) (k2 : Int32 → Mem → Option (Mem)) (x2 : Int32) (M : Mem) : Option (Mem) :=
  if (gI M (128 * (gR M 1280) + 5)) ≤ x2 then
    some (sI M 1281 (imin (9999 : Int32) ((gI M 1281) + (1 : Int32))))
  else
    if oob x2 5 then none else
    if oob x2 5 then none else
    (fX1_hold n0 x2 (gA M 11 (Int32.toNatClampNeg x2)) (gA M 12 (Int32.toNatClampNeg x2)) (gI M 1281) M).bind fun z31 =>
    (fX1_goOn n0 z31).bind fun z35 =>
    if oob x2 5 then none else
    bnd (sA z35 11 (Int32.toNatClampNeg x2) (gI z35 898)) fun M47 =>
    if oob x2 5 then none else
    bnd (sA M47 12 (Int32.toNatClampNeg x2) (gI M47 899)) fun M57 =>
    k2 (x2 + (1 : Int32)) M57
def fX6_goOn_2 (n0 : Nat) : Int32 → Mem → Option (Mem) := loopN (bX6_goOn_2 n0) (fun _ _ => none) n0
def fX6_goOn (n0 : Nat) (M : Mem) : Option (Mem) :=
  fX6_goOn_2 n0 (0 : Int32) M
theorem tbX6_goOn_2 (n0 : Nat) (hO : OKc p (rmL 5) s m args meth c LX D cy ad cX6_goOn RX6 3 5 none) (k2 : Int32 → Mem → Option (Mem)) (hk2 : ∀ (x2 : Int32) (M : Mem), BL p l e (rmL 5) s m args below meth c LX D cy ad 3 (QV LX D cy ad) 2 [(0, .ref (ad 10)), (1, .ref (ad 7)), (2, .int x2)] [] M (k2 x2 M)) (x2 : Int32) (M : Mem) : BL p l e (rmL 5) s m args below meth c LX D cy ad 3 (QV LX D cy ad) 2 [(0, .ref (ad 10)), (1, .ref (ad 7)), (2, .int x2)] [] M (bX6_goOn_2 n0 k2 x2 M) := by
  unfold bX6_goOn_2
  refine b_iload_n hO dX6_goOn_2 2 rfl rfl ?_
  refine b_aload_n hO dX6_goOn_3 0 rfl rfl ?_
  refine b_getR hO flX6_34 kLX_10 (id := 1280) rfl rfl (rk := 9) rfl (by decide) dX6_goOn_4 (fun hg1 => ?_)
  refine b_get hO flX6_38 hg1 (v := .int (gI _ (128 * (gR M 1280) + 5))) rfl dX6_goOn_7 ?_
  refine b_icmp_ge hO dX6_goOn_10 (tgt := 64) (by decide) ?_ ?_
  · refine b_aload_n hO dX6_goOn_64 0 rfl rfl ?_
    refine b_sipush hO dX6_goOn_65 ic_s_9999 ?_
    refine b_aload_n hO dX6_goOn_68 0 rfl rfl ?_
    refine b_get hO flX6_9 kLX_10 (v := .int (gI _ 1281)) rfl dX6_goOn_69 ?_
    refine b_iconst hO dX6_goOn_72 ic_i_1 ?_
    refine b_iadd hO dX6_goOn_73 ?_
    refine b_mmin hO w1145 w591 w136 wm592 (by first | decide | omega) (Nat.le_of_ble_eq_true rfl) dX6_goOn_74 ?_
    refine b_putI hO flX6_9 kLX_10 rfl rfl rfl (id := 1281) rfl dX6_goOn_77 ?_
    exact b_vret hO dX6_goOn_80
  · refine b_aload_n hO dX6_goOn_13 1 rfl rfl ?_
    refine b_iload_n hO dX6_goOn_14 2 rfl rfl ?_
    refine b_aload_n hO dX6_goOn_15 0 rfl rfl ?_
    refine b_get hO flX6_15 kLX_10 (v := .ref (ad 11)) rfl dX6_goOn_16 ?_
    refine b_iload_n hO dX6_goOn_19 2 rfl rfl ?_
    refine b_iald hO kLX_11 (n := 5) rfl dX6_goOn_20 ?_
    refine b_aload_n hO dX6_goOn_21 0 rfl rfl ?_
    refine b_get hO flX6_19 kLX_10 (v := .ref (ad 12)) rfl dX6_goOn_22 ?_
    refine b_iload_n hO dX6_goOn_25 2 rfl rfl ?_
    refine b_iald hO kLX_12 (n := 5) rfl dX6_goOn_26 ?_
    refine b_aload_n hO dX6_goOn_27 0 rfl rfl ?_
    refine b_get hO flX6_9 kLX_10 (v := .int (gI _ 1281)) rfl dX6_goOn_28 ?_
    refine b_callVV hO mdX1_hold mvX1_hold w560 (ci := 1) rfl rfl (by decide) kLX_7 (As := [.int _, .int _, .int _, .int _]) (st := []) (ctX1_hold n0 hO.2.2.2.2.2.2.1 _ _ _ _ _) (Nat.le_of_ble_eq_true rfl) rfl rfl (Nat.le_of_ble_eq_true rfl) dX6_goOn_31 (fun z31 => ?_)
    refine b_aload_n hO dX6_goOn_34 1 rfl rfl ?_
    refine b_callVV hO mdX1_goOn mvX1_goOn w1144 (ci := 1) rfl rfl (by decide) kLX_7 (As := []) (st := []) (ctX1_goOn n0 hO.2.2.2.2.2.2.1 _) (Nat.le_of_ble_eq_true rfl) rfl rfl (Nat.le_of_ble_eq_true rfl) dX6_goOn_35 (fun z35 => ?_)
    refine b_aload_n hO dX6_goOn_38 0 rfl rfl ?_
    refine b_get hO flX6_15 kLX_10 (v := .ref (ad 11)) rfl dX6_goOn_39 ?_
    refine b_iload_n hO dX6_goOn_42 2 rfl rfl ?_
    refine b_aload_n hO dX6_goOn_43 1 rfl rfl ?_
    refine b_get hO flX6_62 kLX_7 (v := .int (gI _ 898)) rfl dX6_goOn_44 ?_
    refine b_iast hO kLX_11 (n := 5) rfl dX6_goOn_47 ?_
    refine b_bnd (fun M47 => ?_)
    refine b_aload_n hO dX6_goOn_48 0 rfl rfl ?_
    refine b_get hO flX6_19 kLX_10 (v := .ref (ad 12)) rfl dX6_goOn_49 ?_
    refine b_iload_n hO dX6_goOn_52 2 rfl rfl ?_
    refine b_aload_n hO dX6_goOn_53 1 rfl rfl ?_
    refine b_get hO flX6_65 kLX_7 (v := .int (gI _ 899)) rfl dX6_goOn_54 ?_
    refine b_iast hO kLX_12 (n := 5) rfl dX6_goOn_57 ?_
    refine b_bnd (fun M57 => ?_)
    refine b_iinc hO dX6_goOn_58 2 rfl ic_i_1 (by decide) (lv' := [(2, .int _), (0, .ref _), (1, .ref _)]) rfl ?_
    refine b_goto hO dX6_goOn_61 (tgt := 2) (by decide) ?_
    refine b_sub [1, 2, 0] rfl ?_
    exact hk2 _ _
theorem lX6_goOn_2 (n0 : Nat) (hO : OKc p (rmL 5) s m args meth c LX D cy ad cX6_goOn RX6 3 5 none) : ∀ (w : Nat) (x2 : Int32) (M : Mem), BL p l e (rmL 5) s m args below meth c LX D cy ad 3 (QV LX D cy ad) 2 [(0, .ref (ad 10)), (1, .ref (ad 7)), (2, .int x2)] [] M (loopN (bX6_goOn_2 n0) (fun _ _ => none) w x2 M) := by
  intro w
  induction w with
  | zero =>
    intros
    exact b_none
  | succ w ih =>
    intro x2 M
    exact tbX6_goOn_2 n0 hO _ ih x2 M
theorem tfX6_goOn_2 (n0 : Nat) (hO : OKc p (rmL 5) s m args meth c LX D cy ad cX6_goOn RX6 3 5 none) (x2 : Int32) (M : Mem) : BL p l e (rmL 5) s m args below meth c LX D cy ad 3 (QV LX D cy ad) 2 [(0, .ref (ad 10)), (1, .ref (ad 7)), (2, .int x2)] [] M (fX6_goOn_2 n0 x2 M) := lX6_goOn_2 n0 hO n0 x2 M
theorem tfX6_goOn (n0 : Nat) (hO : OKc p (rmL 5) s m args meth c LX D cy ad cX6_goOn RX6 3 5 none) (M : Mem) : BL p l e (rmL 5) s m args below meth c LX D cy ad 3 (QV LX D cy ad) 0 [(0, .ref (ad 10)), (1, .ref (ad 7))] [] M (fX6_goOn n0 M) := by
  unfold fX6_goOn
  refine b_iconst hO dX6_goOn_0 ic_i_0 ?_
  refine b_istore_n hO dX6_goOn_1 rfl (by decide) (lv' := [(2, .int _), (0, .ref _), (1, .ref _)]) rfl ?_
  refine b_sub [1, 2, 0] rfl ?_
  exact tfX6_goOn_2 n0 hO _ _
theorem ctX6_goOn (n0 : Nat) (hI : Inj LX ad) (M : Mem) : CT l LX D cy ad yX6_goOn cX6_goOn 3 none 5 (QV LX D cy ad) [.ref (ad 10), .ref (ad 7)] M (fX6_goOn n0 M) :=
  CT.mk LXok hI (by decide) (Nat.le_of_ble_eq_true rfl) (fun hO => tfX6_goOn n0 hO M)
/-! X6_isDue -/
def fX6_isDue (n0 : Nat) (x1 : Int32) (M : Mem) : Option (Int32 × Mem) :=
  if oob x1 6 then none else
  bnd (gA M ((gR M 1280) + 10) (Int32.toNatClampNeg x1)) fun x3_9 =>
  if oob x3_9 5 then none else
  if oob x3_9 5 then none else
  (fX1_hold n0 x3_9 (gA M 11 (Int32.toNatClampNeg x3_9)) (gA M 12 (Int32.toNatClampNeg x3_9)) (gI M 1281) M).bind fun z28 =>
  (fX1_hourNow n0 z28).bind fun z32 =>
  if oob x1 6 then none else
  if z32.1 = (gA z32.2 ((gR z32.2 1280) + 11) (Int32.toNatClampNeg x1)) then
    some ((1 : Int32), z32.2)
  else
    some ((0 : Int32), z32.2)
theorem tfX6_isDue (n0 : Nat) (hO : OKc p (rmL 5) s m args meth c LX D cy ad cX6_isDue RX6 4 5 (some .boolean)) (x1 : Int32) (M : Mem) : BL p l e (rmL 5) s m args below meth c LX D cy ad 4 (QI LX D cy ad) 0 [(0, .ref (ad 10)), (1, .int x1), (2, .ref (ad 7))] [] M (fX6_isDue n0 x1 M) := by
  unfold fX6_isDue
  refine b_aload_n hO dX6_isDue_0 0 rfl rfl ?_
  refine b_getR hO flX6_34 kLX_10 (id := 1280) rfl rfl (rk := 9) rfl (by decide) dX6_isDue_1 (fun hg1 => ?_)
  refine b_get hO flX6_81 hg1 (v := .ref (ad ((gR M 1280) + 10))) rfl dX6_isDue_4 ?_
  refine b_iload_n hO dX6_isDue_7 1 rfl rfl ?_
  refine b_iald hO (kt_9_10 hg1) (n := 6) (lt_9_10 hg1) dX6_isDue_8 ?_
  refine b_topI (fun x3_9 => ?_)
  refine b_istore_n hO dX6_isDue_9 rfl (by decide) (lv' := [(3, .int _), (0, .ref _), (1, .int _), (2, .ref _)]) rfl ?_
  refine b_aload_n hO dX6_isDue_10 3 rfl rfl ?_
  refine b_iload_n hO dX6_isDue_11 0 rfl rfl ?_
  refine b_aload_n hO dX6_isDue_12 1 rfl rfl ?_
  refine b_get hO flX6_15 kLX_10 (v := .ref (ad 11)) rfl dX6_isDue_13 ?_
  refine b_iload_n hO dX6_isDue_16 0 rfl rfl ?_
  refine b_iald hO kLX_11 (n := 5) rfl dX6_isDue_17 ?_
  refine b_aload_n hO dX6_isDue_18 1 rfl rfl ?_
  refine b_get hO flX6_19 kLX_10 (v := .ref (ad 12)) rfl dX6_isDue_19 ?_
  refine b_iload_n hO dX6_isDue_22 0 rfl rfl ?_
  refine b_iald hO kLX_12 (n := 5) rfl dX6_isDue_23 ?_
  refine b_aload_n hO dX6_isDue_24 1 rfl rfl ?_
  refine b_get hO flX6_9 kLX_10 (v := .int (gI _ 1281)) rfl dX6_isDue_25 ?_
  refine b_callVV hO mdX1_hold mvX1_hold w560 (ci := 1) rfl rfl (by decide) kLX_7 (As := [.int _, .int _, .int _, .int _]) (st := []) (ctX1_hold n0 hO.2.2.2.2.2.2.1 _ _ _ _ _) (Nat.le_of_ble_eq_true rfl) rfl rfl (Nat.le_of_ble_eq_true rfl) dX6_isDue_28 (fun z28 => ?_)
  refine b_aload_n hO dX6_isDue_31 3 rfl rfl ?_
  refine b_callVI hO mdX1_hourNow mvX1_hourNow w564 (ci := 1) rfl rfl (by decide) kLX_7 (As := []) (st := []) (ctX1_hourNow n0 hO.2.2.2.2.2.2.1 _) (Nat.le_of_ble_eq_true rfl) rfl rfl (Nat.le_of_ble_eq_true rfl) dX6_isDue_32 (fun z32 => ?_)
  refine b_aload_n hO dX6_isDue_35 1 rfl rfl ?_
  refine b_getR hO flX6_34 kLX_10 (id := 1280) rfl rfl (rk := 9) rfl (by decide) dX6_isDue_36 (fun hg2 => ?_)
  refine b_get hO flX6_88 hg2 (v := .ref (ad ((gR z32.2 1280) + 11))) rfl dX6_isDue_39 ?_
  refine b_iload_n hO dX6_isDue_42 2 rfl rfl ?_
  refine b_iald hO (kt_9_11 hg2) (n := 6) (lt_9_11 hg2) dX6_isDue_43 ?_
  refine b_icmp_ne hO dX6_isDue_44 (tgt := 51) (by decide) ?_ ?_
  · refine b_iconst hO dX6_isDue_51 ic_i_0 ?_
    exact b_zretc hO (Or.inl rfl) dX6_isDue_52
  · refine b_iconst hO dX6_isDue_47 ic_i_1 ?_
    refine b_goto hO dX6_isDue_48 (tgt := 52) (by decide) ?_
    exact b_zretc hO (Or.inr rfl) dX6_isDue_52
theorem ctX6_isDue (n0 : Nat) (hI : Inj LX ad) (x1 : Int32) (M : Mem) : CT l LX D cy ad yX6_isDue cX6_isDue 4 (some .boolean) 5 (QI LX D cy ad) [.ref (ad 10), .int x1, .ref (ad 7)] M (fX6_isDue n0 x1 M) :=
  CT.mk LXok hI (by decide) (Nat.le_of_ble_eq_true rfl) (fun hO => tfX6_isDue n0 hO x1 M)
/-! X6_keep -/
def fX6_keep (n0 : Nat) (x1 : Int32) (M : Mem) : Option (Mem) :=
  if (6 : Int32) ≤ (gI M 1285) then
    some M
  else
    if oob (gI M 1285) 6 then none else
    bnd (sA M 14 (Int32.toNatClampNeg (gI M 1285)) (gI M 1281)) fun M21 =>
    if oob (gI M21 1285) 6 then none else
    bnd (sA M21 15 (Int32.toNatClampNeg (gI M21 1285)) x1) fun M31 =>
    some (sI M31 1285 ((gI M31 1285) + (1 : Int32)))
theorem tfX6_keep (n0 : Nat) (hO : OKc p (rmL 1) s m args meth c LX D cy ad cX6_keep RX6 2 1 none) (x1 : Int32) (M : Mem) : BL p l e (rmL 1) s m args below meth c LX D cy ad 2 (QV LX D cy ad) 0 [(0, .ref (ad 10)), (1, .int x1)] [] M (fX6_keep n0 x1 M) := by
  unfold fX6_keep
  refine b_aload_n hO dX6_keep_0 0 rfl rfl ?_
  refine b_get hO flX6_25 kLX_10 (v := .int (gI _ 1285)) rfl dX6_keep_1 ?_
  refine b_bipush hO dX6_keep_4 ic_b_6 ?_
  refine b_icmp_ge hO dX6_keep_6 (tgt := 42) (by decide) ?_ ?_
  · exact b_vret hO dX6_keep_42
  · refine b_aload_n hO dX6_keep_9 0 rfl rfl ?_
    refine b_get hO flX6_28 kLX_10 (v := .ref (ad 14)) rfl dX6_keep_10 ?_
    refine b_aload_n hO dX6_keep_13 0 rfl rfl ?_
    refine b_get hO flX6_25 kLX_10 (v := .int (gI _ 1285)) rfl dX6_keep_14 ?_
    refine b_aload_n hO dX6_keep_17 0 rfl rfl ?_
    refine b_get hO flX6_9 kLX_10 (v := .int (gI _ 1281)) rfl dX6_keep_18 ?_
    refine b_iast hO kLX_14 (n := 6) rfl dX6_keep_21 ?_
    refine b_bnd (fun M21 => ?_)
    refine b_aload_n hO dX6_keep_22 0 rfl rfl ?_
    refine b_get hO flX6_31 kLX_10 (v := .ref (ad 15)) rfl dX6_keep_23 ?_
    refine b_aload_n hO dX6_keep_26 0 rfl rfl ?_
    refine b_get hO flX6_25 kLX_10 (v := .int (gI _ 1285)) rfl dX6_keep_27 ?_
    refine b_iload_n hO dX6_keep_30 1 rfl rfl ?_
    refine b_iast hO kLX_15 (n := 6) rfl dX6_keep_31 ?_
    refine b_bnd (fun M31 => ?_)
    refine b_aload_n hO dX6_keep_32 0 rfl rfl ?_
    refine b_dup hO dX6_keep_33 rfl ?_
    refine b_get hO flX6_25 kLX_10 (v := .int (gI _ 1285)) rfl dX6_keep_34 ?_
    refine b_iconst hO dX6_keep_37 ic_i_1 ?_
    refine b_iadd hO dX6_keep_38 ?_
    refine b_putI hO flX6_25 kLX_10 rfl rfl rfl (id := 1285) rfl dX6_keep_39 ?_
    exact b_vret hO dX6_keep_42
theorem ctX6_keep (n0 : Nat) (hI : Inj LX ad) (x1 : Int32) (M : Mem) : CT l LX D cy ad yX6_keep cX6_keep 2 none 1 (QV LX D cy ad) [.ref (ad 10), .int x1] M (fX6_keep n0 x1 M) :=
  CT.mk LXok hI (by decide) (Nat.le_of_ble_eq_true rfl) (fun hO => tfX6_keep n0 hO x1 M)
/-! X6_doWhatIsDue -/
def fX6_doWhatIsDue_48 (n0 : Nat) (k4 : Int32 → Int32 → Mem → Option (Int32 × Mem)) (x2 : Int32) (x3 : Int32) (M : Mem) : Option (Int32 × Mem) :=
  k4 x2 (x3 + (1 : Int32)) M
def bX6_doWhatIsDue_4 (n0 : Nat) (k4 : Int32 → Int32 → Mem → Option (Int32 × Mem)) (x2 : Int32) (x3 : Int32) (M : Mem) : Option (Int32 × Mem) :=
  if (gI M (128 * (gR M 1280) + 12)) ≤ x3 then
    some (x2, M)
  else
    if oob x3 6 then none else
    if (gA M 13 (Int32.toNatClampNeg x3)) = 0 then
      (fX6_isDue n0 x3 M).bind fun z27 =>
      if z27.1 = 0 then
        fX6_doWhatIsDue_48 n0 k4 x2 x3 z27.2
      else
        if oob x3 6 then none else
        bnd (sA z27.2 13 (Int32.toNatClampNeg x3) (1 : Int32)) fun M39 =>
        (fX6_keep n0 x3 M39).bind fun z42 =>
        fX6_doWhatIsDue_48 n0 k4 (x2 + (1 : Int32)) x3 z42
    else
      fX6_doWhatIsDue_48 n0 k4 x2 x3 M
def fX6_doWhatIsDue_4 (n0 : Nat) : Int32 → Int32 → Mem → Option (Int32 × Mem) := loopN (bX6_doWhatIsDue_4 n0) (fun _ _ _ => none) n0
def fX6_doWhatIsDue (n0 : Nat) (M : Mem) : Option (Int32 × Mem) :=
  fX6_doWhatIsDue_4 n0 (0 : Int32) (0 : Int32) M
theorem tfX6_doWhatIsDue_48 (n0 : Nat) (hO : OKc p (rmL 6) s m args meth c LX D cy ad cX6_doWhatIsDue RX6 4 6 (some .int)) (k4 : Int32 → Int32 → Mem → Option (Int32 × Mem)) (hk4 : ∀ (x2 : Int32) (x3 : Int32) (M : Mem), BL p l e (rmL 6) s m args below meth c LX D cy ad 4 (QI LX D cy ad) 4 [(0, .ref (ad 10)), (1, .ref (ad 7)), (2, .int x2), (3, .int x3)] [] M (k4 x2 x3 M)) (x2 : Int32) (x3 : Int32) (M : Mem) : BL p l e (rmL 6) s m args below meth c LX D cy ad 4 (QI LX D cy ad) 48 [(0, .ref (ad 10)), (1, .ref (ad 7)), (2, .int x2), (3, .int x3)] [] M (fX6_doWhatIsDue_48 n0 k4 x2 x3 M) := by
  unfold fX6_doWhatIsDue_48
  refine b_iinc hO dX6_doWhatIsDue_48 3 rfl ic_i_1 (by decide) (lv' := [(3, .int _), (0, .ref _), (1, .ref _), (2, .int _)]) rfl ?_
  refine b_goto hO dX6_doWhatIsDue_51 (tgt := 4) (by decide) ?_
  refine b_sub [1, 2, 3, 0] rfl ?_
  exact hk4 _ _ _
theorem tbX6_doWhatIsDue_4 (n0 : Nat) (hO : OKc p (rmL 6) s m args meth c LX D cy ad cX6_doWhatIsDue RX6 4 6 (some .int)) (k4 : Int32 → Int32 → Mem → Option (Int32 × Mem)) (hk4 : ∀ (x2 : Int32) (x3 : Int32) (M : Mem), BL p l e (rmL 6) s m args below meth c LX D cy ad 4 (QI LX D cy ad) 4 [(0, .ref (ad 10)), (1, .ref (ad 7)), (2, .int x2), (3, .int x3)] [] M (k4 x2 x3 M)) (x2 : Int32) (x3 : Int32) (M : Mem) : BL p l e (rmL 6) s m args below meth c LX D cy ad 4 (QI LX D cy ad) 4 [(0, .ref (ad 10)), (1, .ref (ad 7)), (2, .int x2), (3, .int x3)] [] M (bX6_doWhatIsDue_4 n0 k4 x2 x3 M) := by
  unfold bX6_doWhatIsDue_4
  refine b_iload_n hO dX6_doWhatIsDue_4 3 rfl rfl ?_
  refine b_aload_n hO dX6_doWhatIsDue_5 0 rfl rfl ?_
  refine b_getR hO flX6_34 kLX_10 (id := 1280) rfl rfl (rk := 9) rfl (by decide) dX6_doWhatIsDue_6 (fun hg1 => ?_)
  refine b_get hO flX6_50 hg1 (v := .int (gI _ (128 * (gR M 1280) + 12))) rfl dX6_doWhatIsDue_9 ?_
  refine b_icmp_ge hO dX6_doWhatIsDue_12 (tgt := 54) (by decide) ?_ ?_
  · refine b_iload_n hO dX6_doWhatIsDue_54 2 rfl rfl ?_
    exact b_iret hO dX6_doWhatIsDue_55
  · refine b_aload_n hO dX6_doWhatIsDue_15 0 rfl rfl ?_
    refine b_get hO flX6_22 kLX_10 (v := .ref (ad 13)) rfl dX6_doWhatIsDue_16 ?_
    refine b_iload_n hO dX6_doWhatIsDue_19 3 rfl rfl ?_
    refine b_iald hO kLX_13 (n := 6) rfl dX6_doWhatIsDue_20 ?_
    refine b_if_ne hO dX6_doWhatIsDue_21 (tgt := 48) (by decide) ?_ ?_
    · exact tfX6_doWhatIsDue_48 n0 hO k4 hk4 _ _ _
    · refine b_aload_n hO dX6_doWhatIsDue_24 0 rfl rfl ?_
      refine b_iload_n hO dX6_doWhatIsDue_25 3 rfl rfl ?_
      refine b_aload_n hO dX6_doWhatIsDue_26 1 rfl rfl ?_
      refine b_callVI hO mdX6_isDue mvX6_isDue w556 (ci := 6) rfl rfl (by decide) kLX_10 (As := [.int _, .ref _]) (st := []) (ctX6_isDue n0 hO.2.2.2.2.2.2.1 _ _) (Nat.le_of_ble_eq_true rfl) rfl rfl (Nat.le_of_ble_eq_true rfl) dX6_doWhatIsDue_27 (fun z27 => ?_)
      refine b_if_eq hO dX6_doWhatIsDue_30 (tgt := 48) (by decide) ?_ ?_
      · exact tfX6_doWhatIsDue_48 n0 hO k4 hk4 _ _ _
      · refine b_aload_n hO dX6_doWhatIsDue_33 0 rfl rfl ?_
        refine b_get hO flX6_22 kLX_10 (v := .ref (ad 13)) rfl dX6_doWhatIsDue_34 ?_
        refine b_iload_n hO dX6_doWhatIsDue_37 3 rfl rfl ?_
        refine b_iconst hO dX6_doWhatIsDue_38 ic_i_1 ?_
        refine b_iast hO kLX_13 (n := 6) rfl dX6_doWhatIsDue_39 ?_
        refine b_bnd (fun M39 => ?_)
        refine b_aload_n hO dX6_doWhatIsDue_40 0 rfl rfl ?_
        refine b_iload_n hO dX6_doWhatIsDue_41 3 rfl rfl ?_
        refine b_callVV hO mdX6_keep mvX6_keep w604 (ci := 6) rfl rfl (by decide) kLX_10 (As := [.int _]) (st := []) (ctX6_keep n0 hO.2.2.2.2.2.2.1 _ _) (Nat.le_of_ble_eq_true rfl) rfl rfl (Nat.le_of_ble_eq_true rfl) dX6_doWhatIsDue_42 (fun z42 => ?_)
        refine b_iinc hO dX6_doWhatIsDue_45 2 rfl ic_i_1 (by decide) (lv' := [(2, .int _), (0, .ref _), (1, .ref _), (3, .int _)]) rfl ?_
        refine b_sub [1, 2, 0, 3] rfl ?_
        exact tfX6_doWhatIsDue_48 n0 hO k4 hk4 _ _ _
theorem lX6_doWhatIsDue_4 (n0 : Nat) (hO : OKc p (rmL 6) s m args meth c LX D cy ad cX6_doWhatIsDue RX6 4 6 (some .int)) : ∀ (w : Nat) (x2 : Int32) (x3 : Int32) (M : Mem), BL p l e (rmL 6) s m args below meth c LX D cy ad 4 (QI LX D cy ad) 4 [(0, .ref (ad 10)), (1, .ref (ad 7)), (2, .int x2), (3, .int x3)] [] M (loopN (bX6_doWhatIsDue_4 n0) (fun _ _ _ => none) w x2 x3 M) := by
  intro w
  induction w with
  | zero =>
    intros
    exact b_none
  | succ w ih =>
    intro x2 x3 M
    exact tbX6_doWhatIsDue_4 n0 hO _ ih x2 x3 M
theorem tfX6_doWhatIsDue_4 (n0 : Nat) (hO : OKc p (rmL 6) s m args meth c LX D cy ad cX6_doWhatIsDue RX6 4 6 (some .int)) (x2 : Int32) (x3 : Int32) (M : Mem) : BL p l e (rmL 6) s m args below meth c LX D cy ad 4 (QI LX D cy ad) 4 [(0, .ref (ad 10)), (1, .ref (ad 7)), (2, .int x2), (3, .int x3)] [] M (fX6_doWhatIsDue_4 n0 x2 x3 M) := lX6_doWhatIsDue_4 n0 hO n0 x2 x3 M
theorem tfX6_doWhatIsDue (n0 : Nat) (hO : OKc p (rmL 6) s m args meth c LX D cy ad cX6_doWhatIsDue RX6 4 6 (some .int)) (M : Mem) : BL p l e (rmL 6) s m args below meth c LX D cy ad 4 (QI LX D cy ad) 0 [(0, .ref (ad 10)), (1, .ref (ad 7))] [] M (fX6_doWhatIsDue n0 M) := by
  unfold fX6_doWhatIsDue
  refine b_iconst hO dX6_doWhatIsDue_0 ic_i_0 ?_
  refine b_istore_n hO dX6_doWhatIsDue_1 rfl (by decide) (lv' := [(2, .int _), (0, .ref _), (1, .ref _)]) rfl ?_
  refine b_iconst hO dX6_doWhatIsDue_2 ic_i_0 ?_
  refine b_istore_n hO dX6_doWhatIsDue_3 rfl (by decide) (lv' := [(3, .int _), (2, .int _), (0, .ref _), (1, .ref _)]) rfl ?_
  refine b_sub [2, 3, 1, 0] rfl ?_
  exact tfX6_doWhatIsDue_4 n0 hO _ _ _
theorem ctX6_doWhatIsDue (n0 : Nat) (hI : Inj LX ad) (M : Mem) : CT l LX D cy ad yX6_doWhatIsDue cX6_doWhatIsDue 4 (some .int) 6 (QI LX D cy ad) [.ref (ad 10), .ref (ad 7)] M (fX6_doWhatIsDue n0 M) :=
  CT.mk LXok hI (by decide) (Nat.le_of_ble_eq_true rfl) (fun hO => tfX6_doWhatIsDue n0 hO M)
/-! X6_save -/
def fX6_save (n0 : Nat) (q1 : Nat) (M : Mem) : Option (Mem) :=
  if (18 : Int32) ≤ (Int32.ofNat (LX.ln q1)) then
    if oob (0 : Int32) (LX.ln q1) then none else
    bnd (sA M q1 (Int32.toNatClampNeg (0 : Int32)) (gI M 1281)) fun M14 =>
    if oob (1 : Int32) (LX.ln q1) then none else
    bnd (sA M14 q1 (Int32.toNatClampNeg (1 : Int32)) (gI M14 1285)) fun M21 =>
    if (0 : Int32) < 0 ∨ (2 : Int32) < 0 ∨ (5 : Int32) < 0 ∨ 5 < Int32.toNatClampNeg (0 : Int32) + Int32.toNatClampNeg (5 : Int32) ∨ (LX.ln q1) < Int32.toNatClampNeg (2 : Int32) + Int32.toNatClampNeg (5 : Int32) then none else
    bnd (sF M21 q1 (va_cpy (gA M21 11) (gA M21 q1) (Int32.toNatClampNeg (0 : Int32)) (Int32.toNatClampNeg (2 : Int32)) (Int32.toNatClampNeg (5 : Int32)))) fun M30 =>
    if (0 : Int32) < 0 ∨ (7 : Int32) < 0 ∨ (5 : Int32) < 0 ∨ 5 < Int32.toNatClampNeg (0 : Int32) + Int32.toNatClampNeg (5 : Int32) ∨ (LX.ln q1) < Int32.toNatClampNeg (7 : Int32) + Int32.toNatClampNeg (5 : Int32) then none else
    bnd (sF M30 q1 (va_cpy (gA M30 12) (gA M30 q1) (Int32.toNatClampNeg (0 : Int32)) (Int32.toNatClampNeg (7 : Int32)) (Int32.toNatClampNeg (5 : Int32)))) fun M42 =>
    if (0 : Int32) < 0 ∨ (12 : Int32) < 0 ∨ (6 : Int32) < 0 ∨ 6 < Int32.toNatClampNeg (0 : Int32) + Int32.toNatClampNeg (6 : Int32) ∨ (LX.ln q1) < Int32.toNatClampNeg (12 : Int32) + Int32.toNatClampNeg (6 : Int32) then none else
    some (sF M42 q1 (va_cpy (gA M42 13) (gA M42 q1) (Int32.toNatClampNeg (0 : Int32)) (Int32.toNatClampNeg (12 : Int32)) (Int32.toNatClampNeg (6 : Int32))))
  else
    some M
theorem tfX6_save (n0 : Nat) (q1 : Nat) (hq1 : isK LX q1 13) (hO : OKc p (rmL 1) s m args meth c LX D cy ad cX6_save RX6 2 1 none) (M : Mem) : BL p l e (rmL 1) s m args below meth c LX D cy ad 2 (QV LX D cy ad) 0 [(0, .ref (ad 10)), (1, .ref (ad q1))] [] M (fX6_save n0 q1 M) := by
  unfold fX6_save
  refine b_aload_n hO dX6_save_0 1 rfl rfl ?_
  refine b_alen hO hq1 rfl dX6_save_1 ?_
  refine b_bipush hO dX6_save_2 ic_b_18 ?_
  refine b_icmp_ge hO dX6_save_4 (tgt := 8) (by decide) ?_ ?_
  · refine b_aload_n hO dX6_save_8 1 rfl rfl ?_
    refine b_iconst hO dX6_save_9 ic_i_0 ?_
    refine b_aload_n hO dX6_save_10 0 rfl rfl ?_
    refine b_get hO flX6_9 kLX_10 (v := .int (gI _ 1281)) rfl dX6_save_11 ?_
    refine b_iast hO hq1 (n := (LX.ln q1)) rfl dX6_save_14 ?_
    refine b_bnd (fun M14 => ?_)
    refine b_aload_n hO dX6_save_15 1 rfl rfl ?_
    refine b_iconst hO dX6_save_16 ic_i_1 ?_
    refine b_aload_n hO dX6_save_17 0 rfl rfl ?_
    refine b_get hO flX6_25 kLX_10 (v := .int (gI _ 1285)) rfl dX6_save_18 ?_
    refine b_iast hO hq1 (n := (LX.ln q1)) rfl dX6_save_21 ?_
    refine b_bnd (fun M21 => ?_)
    refine b_aload_n hO dX6_save_22 0 rfl rfl ?_
    refine b_get hO flX6_15 kLX_10 (v := .ref (ad 11)) rfl dX6_save_23 ?_
    refine b_iconst hO dX6_save_26 ic_i_0 ?_
    refine b_aload_n hO dX6_save_27 1 rfl rfl ?_
    refine b_iconst hO dX6_save_28 ic_i_2 ?_
    refine b_iconst hO dX6_save_29 ic_i_5 ?_
    refine b_copy hO w1136 w1138 w1137 w138 kLX_11 hq1 (n0 := 5) (n1 := (LX.ln q1)) rfl rfl (by decide) (Nat.le_of_ble_eq_true rfl) dX6_save_30 ?_
    refine b_bnd (fun M30 => ?_)
    refine b_aload_n hO dX6_save_33 0 rfl rfl ?_
    refine b_get hO flX6_19 kLX_10 (v := .ref (ad 12)) rfl dX6_save_34 ?_
    refine b_iconst hO dX6_save_37 ic_i_0 ?_
    refine b_aload_n hO dX6_save_38 1 rfl rfl ?_
    refine b_bipush hO dX6_save_39 ic_b_7 ?_
    refine b_iconst hO dX6_save_41 ic_i_5 ?_
    refine b_copy hO w1136 w1138 w1137 w138 kLX_12 hq1 (n0 := 5) (n1 := (LX.ln q1)) rfl rfl (by decide) (Nat.le_of_ble_eq_true rfl) dX6_save_42 ?_
    refine b_bnd (fun M42 => ?_)
    refine b_aload_n hO dX6_save_45 0 rfl rfl ?_
    refine b_get hO flX6_22 kLX_10 (v := .ref (ad 13)) rfl dX6_save_46 ?_
    refine b_iconst hO dX6_save_49 ic_i_0 ?_
    refine b_aload_n hO dX6_save_50 1 rfl rfl ?_
    refine b_bipush hO dX6_save_51 ic_b_12 ?_
    refine b_bipush hO dX6_save_53 ic_b_6 ?_
    refine b_copy hO w1136 w1138 w1137 w138 kLX_13 hq1 (n0 := 6) (n1 := (LX.ln q1)) rfl rfl (by decide) (Nat.le_of_ble_eq_true rfl) dX6_save_55 ?_
    exact b_vret hO dX6_save_58
  · exact b_vret hO dX6_save_7
theorem ctX6_save (n0 : Nat) (q1 : Nat) (hq1 : isK LX q1 13) (hI : Inj LX ad) (M : Mem) : CT l LX D cy ad yX6_save cX6_save 2 none 1 (QV LX D cy ad) [.ref (ad 10), .ref (ad q1)] M (fX6_save n0 q1 M) :=
  CT.mk LXok hI (by decide) (Nat.le_of_ble_eq_true rfl) (fun hO => tfX6_save n0 q1 hq1 hO M)
/-! X6_bringBack -/
def fX6_bringBack (n0 : Nat) (q1 : Nat) (M : Mem) : Option (Mem) :=
  if (18 : Int32) ≤ (Int32.ofNat (LX.ln q1)) then
    if oob (0 : Int32) (LX.ln q1) then none else
    bnd (sI M 1281 (gA M q1 (Int32.toNatClampNeg (0 : Int32)))) fun M12 =>
    if oob (1 : Int32) (LX.ln q1) then none else
    bnd (sI M12 1285 (gA M12 q1 (Int32.toNatClampNeg (1 : Int32)))) fun M19 =>
    if (2 : Int32) < 0 ∨ (0 : Int32) < 0 ∨ (5 : Int32) < 0 ∨ (LX.ln q1) < Int32.toNatClampNeg (2 : Int32) + Int32.toNatClampNeg (5 : Int32) ∨ 5 < Int32.toNatClampNeg (0 : Int32) + Int32.toNatClampNeg (5 : Int32) then none else
    bnd (sF M19 11 (va_cpy (gA M19 q1) (gA M19 11) (Int32.toNatClampNeg (2 : Int32)) (Int32.toNatClampNeg (0 : Int32)) (Int32.toNatClampNeg (5 : Int32)))) fun M30 =>
    if (7 : Int32) < 0 ∨ (0 : Int32) < 0 ∨ (5 : Int32) < 0 ∨ (LX.ln q1) < Int32.toNatClampNeg (7 : Int32) + Int32.toNatClampNeg (5 : Int32) ∨ 5 < Int32.toNatClampNeg (0 : Int32) + Int32.toNatClampNeg (5 : Int32) then none else
    bnd (sF M30 12 (va_cpy (gA M30 q1) (gA M30 12) (Int32.toNatClampNeg (7 : Int32)) (Int32.toNatClampNeg (0 : Int32)) (Int32.toNatClampNeg (5 : Int32)))) fun M42 =>
    if (12 : Int32) < 0 ∨ (0 : Int32) < 0 ∨ (6 : Int32) < 0 ∨ (LX.ln q1) < Int32.toNatClampNeg (12 : Int32) + Int32.toNatClampNeg (6 : Int32) ∨ 6 < Int32.toNatClampNeg (0 : Int32) + Int32.toNatClampNeg (6 : Int32) then none else
    some (sF M42 13 (va_cpy (gA M42 q1) (gA M42 13) (Int32.toNatClampNeg (12 : Int32)) (Int32.toNatClampNeg (0 : Int32)) (Int32.toNatClampNeg (6 : Int32))))
  else
    some M
theorem tfX6_bringBack (n0 : Nat) (q1 : Nat) (hq1 : isK LX q1 13) (hO : OKc p (rmL 1) s m args meth c LX D cy ad cX6_bringBack RX6 2 1 none) (M : Mem) : BL p l e (rmL 1) s m args below meth c LX D cy ad 2 (QV LX D cy ad) 0 [(0, .ref (ad 10)), (1, .ref (ad q1))] [] M (fX6_bringBack n0 q1 M) := by
  unfold fX6_bringBack
  refine b_aload_n hO dX6_bringBack_0 1 rfl rfl ?_
  refine b_alen hO hq1 rfl dX6_bringBack_1 ?_
  refine b_bipush hO dX6_bringBack_2 ic_b_18 ?_
  refine b_icmp_ge hO dX6_bringBack_4 (tgt := 8) (by decide) ?_ ?_
  · refine b_aload_n hO dX6_bringBack_8 0 rfl rfl ?_
    refine b_aload_n hO dX6_bringBack_9 1 rfl rfl ?_
    refine b_iconst hO dX6_bringBack_10 ic_i_0 ?_
    refine b_iald hO hq1 (n := (LX.ln q1)) rfl dX6_bringBack_11 ?_
    refine b_putI hO flX6_9 kLX_10 rfl rfl rfl (id := 1281) rfl dX6_bringBack_12 ?_
    refine b_bnd (fun M12 => ?_)
    refine b_aload_n hO dX6_bringBack_15 0 rfl rfl ?_
    refine b_aload_n hO dX6_bringBack_16 1 rfl rfl ?_
    refine b_iconst hO dX6_bringBack_17 ic_i_1 ?_
    refine b_iald hO hq1 (n := (LX.ln q1)) rfl dX6_bringBack_18 ?_
    refine b_putI hO flX6_25 kLX_10 rfl rfl rfl (id := 1285) rfl dX6_bringBack_19 ?_
    refine b_bnd (fun M19 => ?_)
    refine b_aload_n hO dX6_bringBack_22 1 rfl rfl ?_
    refine b_iconst hO dX6_bringBack_23 ic_i_2 ?_
    refine b_aload_n hO dX6_bringBack_24 0 rfl rfl ?_
    refine b_get hO flX6_15 kLX_10 (v := .ref (ad 11)) rfl dX6_bringBack_25 ?_
    refine b_iconst hO dX6_bringBack_28 ic_i_0 ?_
    refine b_iconst hO dX6_bringBack_29 ic_i_5 ?_
    refine b_copy hO w1136 w1138 w1137 w138 hq1 kLX_11 (n0 := (LX.ln q1)) (n1 := 5) rfl rfl (by decide) (Nat.le_of_ble_eq_true rfl) dX6_bringBack_30 ?_
    refine b_bnd (fun M30 => ?_)
    refine b_aload_n hO dX6_bringBack_33 1 rfl rfl ?_
    refine b_bipush hO dX6_bringBack_34 ic_b_7 ?_
    refine b_aload_n hO dX6_bringBack_36 0 rfl rfl ?_
    refine b_get hO flX6_19 kLX_10 (v := .ref (ad 12)) rfl dX6_bringBack_37 ?_
    refine b_iconst hO dX6_bringBack_40 ic_i_0 ?_
    refine b_iconst hO dX6_bringBack_41 ic_i_5 ?_
    refine b_copy hO w1136 w1138 w1137 w138 hq1 kLX_12 (n0 := (LX.ln q1)) (n1 := 5) rfl rfl (by decide) (Nat.le_of_ble_eq_true rfl) dX6_bringBack_42 ?_
    refine b_bnd (fun M42 => ?_)
    refine b_aload_n hO dX6_bringBack_45 1 rfl rfl ?_
    refine b_bipush hO dX6_bringBack_46 ic_b_12 ?_
    refine b_aload_n hO dX6_bringBack_48 0 rfl rfl ?_
    refine b_get hO flX6_22 kLX_10 (v := .ref (ad 13)) rfl dX6_bringBack_49 ?_
    refine b_iconst hO dX6_bringBack_52 ic_i_0 ?_
    refine b_bipush hO dX6_bringBack_53 ic_b_6 ?_
    refine b_copy hO w1136 w1138 w1137 w138 hq1 kLX_13 (n0 := (LX.ln q1)) (n1 := 6) rfl rfl (by decide) (Nat.le_of_ble_eq_true rfl) dX6_bringBack_55 ?_
    exact b_vret hO dX6_bringBack_58
  · exact b_vret hO dX6_bringBack_7
theorem ctX6_bringBack (n0 : Nat) (q1 : Nat) (hq1 : isK LX q1 13) (hI : Inj LX ad) (M : Mem) : CT l LX D cy ad yX6_bringBack cX6_bringBack 2 none 1 (QV LX D cy ad) [.ref (ad 10), .ref (ad q1)] M (fX6_bringBack n0 q1 M) :=
  CT.mk LXok hI (by decide) (Nat.le_of_ble_eq_true rfl) (fun hO => tfX6_bringBack n0 q1 hq1 hO M)
/-! X6_imageSize -/
def fX6_imageSize (n0 : Nat) (M : Mem) : Option (Int32 × Mem) :=
  some (((((2 : Int32) + ((3 : Int32) * (gI M (128 * (gR M 1280) + 5)))) + (gI M (128 * (gR M 1280) + 12))) + (1 : Int32)), M)
theorem tfX6_imageSize (n0 : Nat) (hO : OKc p (rmL 1) s m args meth c LX D cy ad cX6_imageSize RX6 1 1 (some .int)) (M : Mem) : BL p l e (rmL 1) s m args below meth c LX D cy ad 1 (QI LX D cy ad) 0 [(0, .ref (ad 10))] [] M (fX6_imageSize n0 M) := by
  unfold fX6_imageSize
  refine b_iconst hO dX6_imageSize_0 ic_i_2 ?_
  refine b_iconst hO dX6_imageSize_1 ic_i_3 ?_
  refine b_aload_n hO dX6_imageSize_2 0 rfl rfl ?_
  refine b_getR hO flX6_34 kLX_10 (id := 1280) rfl rfl (rk := 9) rfl (by decide) dX6_imageSize_3 (fun hg1 => ?_)
  refine b_get hO flX6_38 hg1 (v := .int (gI _ (128 * (gR M 1280) + 5))) rfl dX6_imageSize_6 ?_
  refine b_imul hO dX6_imageSize_9 ?_
  refine b_iadd hO dX6_imageSize_10 ?_
  refine b_aload_n hO dX6_imageSize_11 0 rfl rfl ?_
  refine b_getR hO flX6_34 kLX_10 (id := 1280) rfl rfl (rk := 9) rfl (by decide) dX6_imageSize_12 (fun hg2 => ?_)
  refine b_get hO flX6_50 hg2 (v := .int (gI _ (128 * (gR M 1280) + 12))) rfl dX6_imageSize_15 ?_
  refine b_iadd hO dX6_imageSize_18 ?_
  refine b_iconst hO dX6_imageSize_19 ic_i_1 ?_
  refine b_iadd hO dX6_imageSize_20 ?_
  exact b_iret hO dX6_imageSize_21
theorem ctX6_imageSize (n0 : Nat) (hI : Inj LX ad) (M : Mem) : CT l LX D cy ad yX6_imageSize cX6_imageSize 1 (some .int) 1 (QI LX D cy ad) [.ref (ad 10)] M (fX6_imageSize n0 M) :=
  CT.mk LXok hI (by decide) (Nat.le_of_ble_eq_true rfl) (fun hO => tfX6_imageSize n0 hO M)
/-! X6_checkOf -/
def bX6_checkOf_6 (n0 : Nat) (q0 : Nat) (k6 : Int32 → Int32 → Int32 → Mem → Option (Int32 × Mem)) (x1 : Int32) (x2 : Int32) (x3 : Int32) (M : Mem) : Option (Int32 × Mem) :=
  if x1 ≤ x3 then
    some (x2, M)
  else
    if (Int32.ofNat (LX.ln q0)) ≤ x3 then
      some (x2, M)
    else
      if oob x3 (LX.ln q0) then none else
      if (251 : Int32) = 0 then none else
      bnd (rem32 (((5 : Int32) * x2) + (gA M q0 (Int32.toNatClampNeg x3))) (251 : Int32)) fun x2_28 =>
      k6 x1 x2_28 (x3 + (1 : Int32)) M
def fX6_checkOf_6 (n0 : Nat) (q0 : Nat) : Int32 → Int32 → Int32 → Mem → Option (Int32 × Mem) := loopN (bX6_checkOf_6 n0 q0) (fun _ _ _ _ => none) n0
def fX6_checkOf (n0 : Nat) (q0 : Nat) (x1 : Int32) (M : Mem) : Option (Int32 × Mem) :=
  fX6_checkOf_6 n0 q0 x1 (227 : Int32) (0 : Int32) M
theorem tbX6_checkOf_6 (n0 : Nat) (q0 : Nat) (hq0 : isK LX q0 13) (hO : OKc p (rmL 1) s m args meth c LX D cy ad cX6_checkOf RX6 4 1 (some .int)) (k6 : Int32 → Int32 → Int32 → Mem → Option (Int32 × Mem)) (hk6 : ∀ (x1 : Int32) (x2 : Int32) (x3 : Int32) (M : Mem), BL p l e (rmL 1) s m args below meth c LX D cy ad 4 (QI LX D cy ad) 6 [(0, .ref (ad q0)), (1, .int x1), (2, .int x2), (3, .int x3)] [] M (k6 x1 x2 x3 M)) (x1 : Int32) (x2 : Int32) (x3 : Int32) (M : Mem) : BL p l e (rmL 1) s m args below meth c LX D cy ad 4 (QI LX D cy ad) 6 [(0, .ref (ad q0)), (1, .int x1), (2, .int x2), (3, .int x3)] [] M (bX6_checkOf_6 n0 q0 k6 x1 x2 x3 M) := by
  unfold bX6_checkOf_6
  refine b_iload_n hO dX6_checkOf_6 3 rfl rfl ?_
  refine b_iload_n hO dX6_checkOf_7 1 rfl rfl ?_
  refine b_icmp_ge hO dX6_checkOf_8 (tgt := 35) (by decide) ?_ ?_
  · refine b_iload_n hO dX6_checkOf_35 2 rfl rfl ?_
    exact b_iret hO dX6_checkOf_36
  · refine b_iload_n hO dX6_checkOf_11 3 rfl rfl ?_
    refine b_aload_n hO dX6_checkOf_12 0 rfl rfl ?_
    refine b_alen hO hq0 rfl dX6_checkOf_13 ?_
    refine b_icmp_ge hO dX6_checkOf_14 (tgt := 35) (by decide) ?_ ?_
    · refine b_iload_n hO dX6_checkOf_35 2 rfl rfl ?_
      exact b_iret hO dX6_checkOf_36
    · refine b_iconst hO dX6_checkOf_17 ic_i_5 ?_
      refine b_iload_n hO dX6_checkOf_18 2 rfl rfl ?_
      refine b_imul hO dX6_checkOf_19 ?_
      refine b_aload_n hO dX6_checkOf_20 0 rfl rfl ?_
      refine b_iload_n hO dX6_checkOf_21 3 rfl rfl ?_
      refine b_iald hO hq0 (n := (LX.ln q0)) rfl dX6_checkOf_22 ?_
      refine b_iadd hO dX6_checkOf_23 ?_
      refine b_sipush hO dX6_checkOf_24 ic_s_251 ?_
      refine b_irem hO dX6_checkOf_27 ?_
      refine b_topI (fun x2_28 => ?_)
      refine b_istore_n hO dX6_checkOf_28 rfl (by decide) (lv' := [(2, .int _), (0, .ref _), (1, .int _), (3, .int _)]) rfl ?_
      refine b_iinc hO dX6_checkOf_29 3 rfl ic_i_1 (by decide) (lv' := [(3, .int _), (2, .int _), (0, .ref _), (1, .int _)]) rfl ?_
      refine b_goto hO dX6_checkOf_32 (tgt := 6) (by decide) ?_
      refine b_sub [2, 3, 1, 0] rfl ?_
      exact hk6 _ _ _ _
theorem lX6_checkOf_6 (n0 : Nat) (q0 : Nat) (hq0 : isK LX q0 13) (hO : OKc p (rmL 1) s m args meth c LX D cy ad cX6_checkOf RX6 4 1 (some .int)) : ∀ (w : Nat) (x1 : Int32) (x2 : Int32) (x3 : Int32) (M : Mem), BL p l e (rmL 1) s m args below meth c LX D cy ad 4 (QI LX D cy ad) 6 [(0, .ref (ad q0)), (1, .int x1), (2, .int x2), (3, .int x3)] [] M (loopN (bX6_checkOf_6 n0 q0) (fun _ _ _ _ => none) w x1 x2 x3 M) := by
  intro w
  induction w with
  | zero =>
    intros
    exact b_none
  | succ w ih =>
    intro x1 x2 x3 M
    exact tbX6_checkOf_6 n0 q0 hq0 hO _ ih x1 x2 x3 M
theorem tfX6_checkOf_6 (n0 : Nat) (q0 : Nat) (hq0 : isK LX q0 13) (hO : OKc p (rmL 1) s m args meth c LX D cy ad cX6_checkOf RX6 4 1 (some .int)) (x1 : Int32) (x2 : Int32) (x3 : Int32) (M : Mem) : BL p l e (rmL 1) s m args below meth c LX D cy ad 4 (QI LX D cy ad) 6 [(0, .ref (ad q0)), (1, .int x1), (2, .int x2), (3, .int x3)] [] M (fX6_checkOf_6 n0 q0 x1 x2 x3 M) := lX6_checkOf_6 n0 q0 hq0 hO n0 x1 x2 x3 M
theorem tfX6_checkOf (n0 : Nat) (q0 : Nat) (hq0 : isK LX q0 13) (hO : OKc p (rmL 1) s m args meth c LX D cy ad cX6_checkOf RX6 4 1 (some .int)) (x1 : Int32) (M : Mem) : BL p l e (rmL 1) s m args below meth c LX D cy ad 4 (QI LX D cy ad) 0 [(0, .ref (ad q0)), (1, .int x1)] [] M (fX6_checkOf n0 q0 x1 M) := by
  unfold fX6_checkOf
  refine b_sipush hO dX6_checkOf_0 ic_s_227 ?_
  refine b_istore_n hO dX6_checkOf_3 rfl (by decide) (lv' := [(2, .int _), (0, .ref _), (1, .int _)]) rfl ?_
  refine b_iconst hO dX6_checkOf_4 ic_i_0 ?_
  refine b_istore_n hO dX6_checkOf_5 rfl (by decide) (lv' := [(3, .int _), (2, .int _), (0, .ref _), (1, .int _)]) rfl ?_
  refine b_sub [2, 3, 1, 0] rfl ?_
  exact tfX6_checkOf_6 n0 q0 hq0 hO _ _ _ _
theorem ctX6_checkOf (n0 : Nat) (q0 : Nat) (hq0 : isK LX q0 13) (hI : Inj LX ad) (x1 : Int32) (M : Mem) : CT l LX D cy ad yX6_checkOf cX6_checkOf 4 (some .int) 1 (QI LX D cy ad) [.ref (ad q0), .int x1] M (fX6_checkOf n0 q0 x1 M) :=
  CT.mk LXok hI (by decide) (Nat.le_of_ble_eq_true rfl) (fun hO => tfX6_checkOf n0 q0 hq0 hO x1 M)
/-! X6_writeImage -/
def fX6_writeImage_79 (n0 : Nat) (q1 : Nat) (k36 : Int32 → Int32 → Mem → Option (Int32 × Mem)) (x2 : Int32) (x3 : Int32) (x4 : Int32) (u1 : Int32) (u2 : Int32) (M : Mem) : Option (Int32 × Mem) :=
  if oob u1 (LX.ln q1) then none else
  bnd (sA M q1 (Int32.toNatClampNeg u1) u2) fun M79 =>
  if oob x3 5 then none else
  if oob (x4 + (1 : Int32)) (LX.ln q1) then none else
  bnd (sA M79 q1 (Int32.toNatClampNeg (x4 + (1 : Int32))) ((gA M79 12 (Int32.toNatClampNeg x3)) >>> ((8 : Int32) &&& 31))) fun M94 =>
  if oob x3 5 then none else
  if oob (x4 + (2 : Int32)) (LX.ln q1) then none else
  bnd (sA M94 q1 (Int32.toNatClampNeg (x4 + (2 : Int32))) ((gA M94 12 (Int32.toNatClampNeg x3)) &&& (255 : Int32))) fun M110 =>
  k36 x2 (x3 + (1 : Int32)) M110
def bX6_writeImage_119 (n0 : Nat) (q1 : Nat) (k119 : Int32 → Int32 → Mem → Option (Int32 × Mem)) (x2 : Int32) (x3 : Int32) (M : Mem) : Option (Int32 × Mem) :=
  if (gI M (128 * (gR M 1280) + 12)) ≤ x3 then
    (fX6_checkOf n0 q1 (x2 - (1 : Int32)) M).bind fun z165 =>
    if oob (x2 - (1 : Int32)) (LX.ln q1) then none else
    bnd (sA z165.2 q1 (Int32.toNatClampNeg (x2 - (1 : Int32))) z165.1) fun M168 =>
    some (x2, M168)
  else
    if oob x3 6 then none else
    if oob (((2 : Int32) + ((3 : Int32) * (gI M (128 * (gR M 1280) + 5)))) + x3) (LX.ln q1) then none else
    bnd (sA M q1 (Int32.toNatClampNeg (((2 : Int32) + ((3 : Int32) * (gI M (128 * (gR M 1280) + 5)))) + x3)) (gA M 13 (Int32.toNatClampNeg x3))) fun M150 =>
    k119 x2 (x3 + (1 : Int32)) M150
def fX6_writeImage_119 (n0 : Nat) (q1 : Nat) : Int32 → Int32 → Mem → Option (Int32 × Mem) := loopN (bX6_writeImage_119 n0 q1) (fun _ _ _ => none) n0
def bX6_writeImage_36 (n0 : Nat) (q1 : Nat) (k36 : Int32 → Int32 → Mem → Option (Int32 × Mem)) (x2 : Int32) (x3 : Int32) (M : Mem) : Option (Int32 × Mem) :=
  if (gI M (128 * (gR M 1280) + 5)) ≤ x3 then
    fX6_writeImage_119 n0 q1 x2 (0 : Int32) M
  else
    bnd ((2 : Int32) + ((3 : Int32) * x3)) fun x4_52 =>
    if oob x3 5 then none else
    if (gA M 11 (Int32.toNatClampNeg x3)) = (-1 : Int32) then
      fX6_writeImage_79 n0 q1 k36 x2 x3 x4_52 x4_52 (255 : Int32) M
    else
      if oob x3 5 then none else
      fX6_writeImage_79 n0 q1 k36 x2 x3 x4_52 x4_52 (gA M 11 (Int32.toNatClampNeg x3)) M
def fX6_writeImage_36 (n0 : Nat) (q1 : Nat) : Int32 → Int32 → Mem → Option (Int32 × Mem) := loopN (bX6_writeImage_36 n0 q1) (fun _ _ _ => none) n0
def fX6_writeImage (n0 : Nat) (q1 : Nat) (M : Mem) : Option (Int32 × Mem) :=
  (fX6_imageSize n0 M).bind fun z1 =>
  if z1.1 ≤ (Int32.ofNat (LX.ln q1)) then
    if oob (0 : Int32) (LX.ln q1) then none else
    bnd (sA z1.2 q1 (Int32.toNatClampNeg (0 : Int32)) ((gI z1.2 1281) >>> ((8 : Int32) &&& 31))) fun M22 =>
    if oob (1 : Int32) (LX.ln q1) then none else
    bnd (sA M22 q1 (Int32.toNatClampNeg (1 : Int32)) ((gI M22 1281) &&& (255 : Int32))) fun M33 =>
    fX6_writeImage_36 n0 q1 z1.1 (0 : Int32) M33
  else
    some ((0 : Int32), z1.2)
theorem tfX6_writeImage_79 (n0 : Nat) (q1 : Nat) (hq1 : isK LX q1 13) (hO : OKc p (rmL 2) s m args meth c LX D cy ad cX6_writeImage RX6 5 2 (some .int)) (k36 : Int32 → Int32 → Mem → Option (Int32 × Mem)) (hk36 : ∀ (x2 : Int32) (x3 : Int32) (M : Mem), BL p l e (rmL 2) s m args below meth c LX D cy ad 5 (QI LX D cy ad) 36 [(0, .ref (ad 10)), (1, .ref (ad q1)), (2, .int x2), (3, .int x3)] [] M (k36 x2 x3 M)) (x2 : Int32) (x3 : Int32) (x4 : Int32) (u1 : Int32) (u2 : Int32) (M : Mem) : BL p l e (rmL 2) s m args below meth c LX D cy ad 5 (QI LX D cy ad) 79 [(0, .ref (ad 10)), (1, .ref (ad q1)), (2, .int x2), (3, .int x3), (4, .int x4)] [.int u2, .int u1, .ref (ad q1)] M (fX6_writeImage_79 n0 q1 k36 x2 x3 x4 u1 u2 M) := by
  unfold fX6_writeImage_79
  refine b_iast hO hq1 (n := (LX.ln q1)) rfl dX6_writeImage_79 ?_
  refine b_bnd (fun M79 => ?_)
  refine b_aload_n hO dX6_writeImage_80 1 rfl rfl ?_
  refine b_iload hO dX6_writeImage_81 4 rfl ?_
  refine b_iconst hO dX6_writeImage_83 ic_i_1 ?_
  refine b_iadd hO dX6_writeImage_84 ?_
  refine b_aload_n hO dX6_writeImage_85 0 rfl rfl ?_
  refine b_get hO flX6_19 kLX_10 (v := .ref (ad 12)) rfl dX6_writeImage_86 ?_
  refine b_iload_n hO dX6_writeImage_89 3 rfl rfl ?_
  refine b_iald hO kLX_12 (n := 5) rfl dX6_writeImage_90 ?_
  refine b_bipush hO dX6_writeImage_91 ic_b_8 ?_
  refine b_ishr hO dX6_writeImage_93 ?_
  refine b_iast hO hq1 (n := (LX.ln q1)) rfl dX6_writeImage_94 ?_
  refine b_bnd (fun M94 => ?_)
  refine b_aload_n hO dX6_writeImage_95 1 rfl rfl ?_
  refine b_iload hO dX6_writeImage_96 4 rfl ?_
  refine b_iconst hO dX6_writeImage_98 ic_i_2 ?_
  refine b_iadd hO dX6_writeImage_99 ?_
  refine b_aload_n hO dX6_writeImage_100 0 rfl rfl ?_
  refine b_get hO flX6_19 kLX_10 (v := .ref (ad 12)) rfl dX6_writeImage_101 ?_
  refine b_iload_n hO dX6_writeImage_104 3 rfl rfl ?_
  refine b_iald hO kLX_12 (n := 5) rfl dX6_writeImage_105 ?_
  refine b_sipush hO dX6_writeImage_106 ic_s_255 ?_
  refine b_iand hO dX6_writeImage_109 ?_
  refine b_iast hO hq1 (n := (LX.ln q1)) rfl dX6_writeImage_110 ?_
  refine b_bnd (fun M110 => ?_)
  refine b_iinc hO dX6_writeImage_111 3 rfl ic_i_1 (by decide) (lv' := [(3, .int _), (0, .ref _), (1, .ref _), (2, .int _), (4, .int _)]) rfl ?_
  refine b_goto hO dX6_writeImage_114 (tgt := 36) (by decide) ?_
  refine b_sub [1, 2, 3, 0] rfl ?_
  exact hk36 _ _ _
theorem tbX6_writeImage_119 (n0 : Nat) (q1 : Nat) (hq1 : isK LX q1 13) (hO : OKc p (rmL 2) s m args meth c LX D cy ad cX6_writeImage RX6 5 2 (some .int)) (k119 : Int32 → Int32 → Mem → Option (Int32 × Mem)) (hk119 : ∀ (x2 : Int32) (x3 : Int32) (M : Mem), BL p l e (rmL 2) s m args below meth c LX D cy ad 5 (QI LX D cy ad) 119 [(0, .ref (ad 10)), (1, .ref (ad q1)), (2, .int x2), (3, .int x3)] [] M (k119 x2 x3 M)) (x2 : Int32) (x3 : Int32) (M : Mem) : BL p l e (rmL 2) s m args below meth c LX D cy ad 5 (QI LX D cy ad) 119 [(0, .ref (ad 10)), (1, .ref (ad q1)), (2, .int x2), (3, .int x3)] [] M (bX6_writeImage_119 n0 q1 k119 x2 x3 M) := by
  unfold bX6_writeImage_119
  refine b_iload_n hO dX6_writeImage_119 3 rfl rfl ?_
  refine b_aload_n hO dX6_writeImage_120 0 rfl rfl ?_
  refine b_getR hO flX6_34 kLX_10 (id := 1280) rfl rfl (rk := 9) rfl (by decide) dX6_writeImage_121 (fun hg1 => ?_)
  refine b_get hO flX6_50 hg1 (v := .int (gI _ (128 * (gR M 1280) + 12))) rfl dX6_writeImage_124 ?_
  refine b_icmp_ge hO dX6_writeImage_127 (tgt := 157) (by decide) ?_ ?_
  · refine b_aload_n hO dX6_writeImage_157 1 rfl rfl ?_
    refine b_iload_n hO dX6_writeImage_158 2 rfl rfl ?_
    refine b_iconst hO dX6_writeImage_159 ic_i_1 ?_
    refine b_isub hO dX6_writeImage_160 ?_
    refine b_aload_n hO dX6_writeImage_161 1 rfl rfl ?_
    refine b_iload_n hO dX6_writeImage_162 2 rfl rfl ?_
    refine b_iconst hO dX6_writeImage_163 ic_i_1 ?_
    refine b_isub hO dX6_writeImage_164 ?_
    refine b_callSI hO mdX6_checkOf w1207 w1206 (As := [.ref _, .int _]) (st := [.int _, .ref _]) (ctX6_checkOf n0 _ hq1 hO.2.2.2.2.2.2.1 _ _) (Nat.le_of_ble_eq_true rfl) rfl rfl (Nat.le_of_ble_eq_true rfl) dX6_writeImage_165 (fun z165 => ?_)
    refine b_iast hO hq1 (n := (LX.ln q1)) rfl dX6_writeImage_168 ?_
    refine b_bnd (fun M168 => ?_)
    refine b_iload_n hO dX6_writeImage_169 2 rfl rfl ?_
    exact b_iret hO dX6_writeImage_170
  · refine b_aload_n hO dX6_writeImage_130 1 rfl rfl ?_
    refine b_iconst hO dX6_writeImage_131 ic_i_2 ?_
    refine b_iconst hO dX6_writeImage_132 ic_i_3 ?_
    refine b_aload_n hO dX6_writeImage_133 0 rfl rfl ?_
    refine b_getR hO flX6_34 kLX_10 (id := 1280) rfl rfl (rk := 9) rfl (by decide) dX6_writeImage_134 (fun hg2 => ?_)
    refine b_get hO flX6_38 hg2 (v := .int (gI _ (128 * (gR M 1280) + 5))) rfl dX6_writeImage_137 ?_
    refine b_imul hO dX6_writeImage_140 ?_
    refine b_iadd hO dX6_writeImage_141 ?_
    refine b_iload_n hO dX6_writeImage_142 3 rfl rfl ?_
    refine b_iadd hO dX6_writeImage_143 ?_
    refine b_aload_n hO dX6_writeImage_144 0 rfl rfl ?_
    refine b_get hO flX6_22 kLX_10 (v := .ref (ad 13)) rfl dX6_writeImage_145 ?_
    refine b_iload_n hO dX6_writeImage_148 3 rfl rfl ?_
    refine b_iald hO kLX_13 (n := 6) rfl dX6_writeImage_149 ?_
    refine b_iast hO hq1 (n := (LX.ln q1)) rfl dX6_writeImage_150 ?_
    refine b_bnd (fun M150 => ?_)
    refine b_iinc hO dX6_writeImage_151 3 rfl ic_i_1 (by decide) (lv' := [(3, .int _), (0, .ref _), (1, .ref _), (2, .int _)]) rfl ?_
    refine b_goto hO dX6_writeImage_154 (tgt := 119) (by decide) ?_
    refine b_sub [1, 2, 3, 0] rfl ?_
    exact hk119 _ _ _
theorem lX6_writeImage_119 (n0 : Nat) (q1 : Nat) (hq1 : isK LX q1 13) (hO : OKc p (rmL 2) s m args meth c LX D cy ad cX6_writeImage RX6 5 2 (some .int)) : ∀ (w : Nat) (x2 : Int32) (x3 : Int32) (M : Mem), BL p l e (rmL 2) s m args below meth c LX D cy ad 5 (QI LX D cy ad) 119 [(0, .ref (ad 10)), (1, .ref (ad q1)), (2, .int x2), (3, .int x3)] [] M (loopN (bX6_writeImage_119 n0 q1) (fun _ _ _ => none) w x2 x3 M) := by
  intro w
  induction w with
  | zero =>
    intros
    exact b_none
  | succ w ih =>
    intro x2 x3 M
    exact tbX6_writeImage_119 n0 q1 hq1 hO _ ih x2 x3 M
theorem tfX6_writeImage_119 (n0 : Nat) (q1 : Nat) (hq1 : isK LX q1 13) (hO : OKc p (rmL 2) s m args meth c LX D cy ad cX6_writeImage RX6 5 2 (some .int)) (x2 : Int32) (x3 : Int32) (M : Mem) : BL p l e (rmL 2) s m args below meth c LX D cy ad 5 (QI LX D cy ad) 119 [(0, .ref (ad 10)), (1, .ref (ad q1)), (2, .int x2), (3, .int x3)] [] M (fX6_writeImage_119 n0 q1 x2 x3 M) := lX6_writeImage_119 n0 q1 hq1 hO n0 x2 x3 M
theorem tbX6_writeImage_36 (n0 : Nat) (q1 : Nat) (hq1 : isK LX q1 13) (hO : OKc p (rmL 2) s m args meth c LX D cy ad cX6_writeImage RX6 5 2 (some .int)) (k36 : Int32 → Int32 → Mem → Option (Int32 × Mem)) (hk36 : ∀ (x2 : Int32) (x3 : Int32) (M : Mem), BL p l e (rmL 2) s m args below meth c LX D cy ad 5 (QI LX D cy ad) 36 [(0, .ref (ad 10)), (1, .ref (ad q1)), (2, .int x2), (3, .int x3)] [] M (k36 x2 x3 M)) (x2 : Int32) (x3 : Int32) (M : Mem) : BL p l e (rmL 2) s m args below meth c LX D cy ad 5 (QI LX D cy ad) 36 [(0, .ref (ad 10)), (1, .ref (ad q1)), (2, .int x2), (3, .int x3)] [] M (bX6_writeImage_36 n0 q1 k36 x2 x3 M) := by
  unfold bX6_writeImage_36
  refine b_iload_n hO dX6_writeImage_36 3 rfl rfl ?_
  refine b_aload_n hO dX6_writeImage_37 0 rfl rfl ?_
  refine b_getR hO flX6_34 kLX_10 (id := 1280) rfl rfl (rk := 9) rfl (by decide) dX6_writeImage_38 (fun hg1 => ?_)
  refine b_get hO flX6_38 hg1 (v := .int (gI _ (128 * (gR M 1280) + 5))) rfl dX6_writeImage_41 ?_
  refine b_icmp_ge hO dX6_writeImage_44 (tgt := 117) (by decide) ?_ ?_
  · refine b_iconst hO dX6_writeImage_117 ic_i_0 ?_
    refine b_istore_n hO dX6_writeImage_118 rfl (by decide) (lv' := [(3, .int _), (0, .ref _), (1, .ref _), (2, .int _)]) rfl ?_
    refine b_sub [1, 2, 3, 0] rfl ?_
    exact tfX6_writeImage_119 n0 q1 hq1 hO _ _ _
  · refine b_iconst hO dX6_writeImage_47 ic_i_2 ?_
    refine b_iconst hO dX6_writeImage_48 ic_i_3 ?_
    refine b_iload_n hO dX6_writeImage_49 3 rfl rfl ?_
    refine b_imul hO dX6_writeImage_50 ?_
    refine b_iadd hO dX6_writeImage_51 ?_
    refine b_topI (fun x4_52 => ?_)
    refine b_istore hO dX6_writeImage_52 (by decide) (lv' := [(4, .int _), (0, .ref _), (1, .ref _), (2, .int _), (3, .int _)]) rfl ?_
    refine b_aload_n hO dX6_writeImage_54 2 rfl rfl ?_
    refine b_iload hO dX6_writeImage_55 0 rfl ?_
    refine b_aload_n hO dX6_writeImage_57 1 rfl rfl ?_
    refine b_get hO flX6_15 kLX_10 (v := .ref (ad 11)) rfl dX6_writeImage_58 ?_
    refine b_iload_n hO dX6_writeImage_61 4 rfl rfl ?_
    refine b_iald hO kLX_11 (n := 5) rfl dX6_writeImage_62 ?_
    refine b_iconst hO dX6_writeImage_63 ic_i_m1 ?_
    refine b_icmp_ne hO dX6_writeImage_64 (tgt := 73) (by decide) ?_ ?_
    · refine b_aload_n hO dX6_writeImage_73 1 rfl rfl ?_
      refine b_get hO flX6_15 kLX_10 (v := .ref (ad 11)) rfl dX6_writeImage_74 ?_
      refine b_iload_n hO dX6_writeImage_77 4 rfl rfl ?_
      refine b_iald hO kLX_11 (n := 5) rfl dX6_writeImage_78 ?_
      refine b_sub [1, 2, 3, 4, 0] rfl ?_
      exact tfX6_writeImage_79 n0 q1 hq1 hO k36 hk36 _ _ _ _ _ _
    · refine b_sipush hO dX6_writeImage_67 ic_s_255 ?_
      refine b_goto hO dX6_writeImage_70 (tgt := 79) (by decide) ?_
      refine b_sub [1, 2, 3, 4, 0] rfl ?_
      exact tfX6_writeImage_79 n0 q1 hq1 hO k36 hk36 _ _ _ _ _ _
theorem lX6_writeImage_36 (n0 : Nat) (q1 : Nat) (hq1 : isK LX q1 13) (hO : OKc p (rmL 2) s m args meth c LX D cy ad cX6_writeImage RX6 5 2 (some .int)) : ∀ (w : Nat) (x2 : Int32) (x3 : Int32) (M : Mem), BL p l e (rmL 2) s m args below meth c LX D cy ad 5 (QI LX D cy ad) 36 [(0, .ref (ad 10)), (1, .ref (ad q1)), (2, .int x2), (3, .int x3)] [] M (loopN (bX6_writeImage_36 n0 q1) (fun _ _ _ => none) w x2 x3 M) := by
  intro w
  induction w with
  | zero =>
    intros
    exact b_none
  | succ w ih =>
    intro x2 x3 M
    exact tbX6_writeImage_36 n0 q1 hq1 hO _ ih x2 x3 M
theorem tfX6_writeImage_36 (n0 : Nat) (q1 : Nat) (hq1 : isK LX q1 13) (hO : OKc p (rmL 2) s m args meth c LX D cy ad cX6_writeImage RX6 5 2 (some .int)) (x2 : Int32) (x3 : Int32) (M : Mem) : BL p l e (rmL 2) s m args below meth c LX D cy ad 5 (QI LX D cy ad) 36 [(0, .ref (ad 10)), (1, .ref (ad q1)), (2, .int x2), (3, .int x3)] [] M (fX6_writeImage_36 n0 q1 x2 x3 M) := lX6_writeImage_36 n0 q1 hq1 hO n0 x2 x3 M
theorem tfX6_writeImage (n0 : Nat) (q1 : Nat) (hq1 : isK LX q1 13) (hO : OKc p (rmL 2) s m args meth c LX D cy ad cX6_writeImage RX6 5 2 (some .int)) (M : Mem) : BL p l e (rmL 2) s m args below meth c LX D cy ad 5 (QI LX D cy ad) 0 [(0, .ref (ad 10)), (1, .ref (ad q1))] [] M (fX6_writeImage n0 q1 M) := by
  unfold fX6_writeImage
  refine b_aload_n hO dX6_writeImage_0 0 rfl rfl ?_
  refine b_callVI hO mdX6_imageSize mvX6_imageSize w1202 (ci := 6) rfl rfl (by decide) kLX_10 (As := []) (st := []) (ctX6_imageSize n0 hO.2.2.2.2.2.2.1 _) (Nat.le_of_ble_eq_true rfl) rfl rfl (Nat.le_of_ble_eq_true rfl) dX6_writeImage_1 (fun z1 => ?_)
  refine b_istore_n hO dX6_writeImage_4 rfl (by decide) (lv' := [(2, .int _), (0, .ref _), (1, .ref _)]) rfl ?_
  refine b_aload_n hO dX6_writeImage_5 2 rfl rfl ?_
  refine b_alen hO hq1 rfl dX6_writeImage_6 ?_
  refine b_iload_n hO dX6_writeImage_7 0 rfl rfl ?_
  refine b_icmp_ge hO dX6_writeImage_8 (tgt := 13) (by decide) ?_ ?_
  · refine b_aload_n hO dX6_writeImage_13 2 rfl rfl ?_
    refine b_iconst hO dX6_writeImage_14 ic_i_0 ?_
    refine b_aload_n hO dX6_writeImage_15 1 rfl rfl ?_
    refine b_get hO flX6_9 kLX_10 (v := .int (gI _ 1281)) rfl dX6_writeImage_16 ?_
    refine b_bipush hO dX6_writeImage_19 ic_b_8 ?_
    refine b_ishr hO dX6_writeImage_21 ?_
    refine b_iast hO hq1 (n := (LX.ln q1)) rfl dX6_writeImage_22 ?_
    refine b_bnd (fun M22 => ?_)
    refine b_aload_n hO dX6_writeImage_23 2 rfl rfl ?_
    refine b_iconst hO dX6_writeImage_24 ic_i_1 ?_
    refine b_aload_n hO dX6_writeImage_25 1 rfl rfl ?_
    refine b_get hO flX6_9 kLX_10 (v := .int (gI _ 1281)) rfl dX6_writeImage_26 ?_
    refine b_sipush hO dX6_writeImage_29 ic_s_255 ?_
    refine b_iand hO dX6_writeImage_32 ?_
    refine b_iast hO hq1 (n := (LX.ln q1)) rfl dX6_writeImage_33 ?_
    refine b_bnd (fun M33 => ?_)
    refine b_iconst hO dX6_writeImage_34 ic_i_0 ?_
    refine b_istore_n hO dX6_writeImage_35 rfl (by decide) (lv' := [(3, .int _), (2, .int _), (0, .ref _), (1, .ref _)]) rfl ?_
    refine b_sub [2, 3, 1, 0] rfl ?_
    exact tfX6_writeImage_36 n0 q1 hq1 hO _ _ _
  · refine b_iconst hO dX6_writeImage_11 ic_i_0 ?_
    exact b_iret hO dX6_writeImage_12
theorem ctX6_writeImage (n0 : Nat) (q1 : Nat) (hq1 : isK LX q1 13) (hI : Inj LX ad) (M : Mem) : CT l LX D cy ad yX6_writeImage cX6_writeImage 5 (some .int) 2 (QI LX D cy ad) [.ref (ad 10), .ref (ad q1)] M (fX6_writeImage n0 q1 M) :=
  CT.mk LXok hI (by decide) (Nat.le_of_ble_eq_true rfl) (fun hO => tfX6_writeImage n0 q1 hq1 hO M)
/-! X6_isImage -/
def fX6_isImage_75 (n0 : Nat) (k28 : Int32 → Int32 → Mem → Option (Int32 × Mem)) (x2 : Int32) (x3 : Int32) (u0 : Int32) (M : Mem) : Option (Int32 × Mem) :=
  if u0 = 0 then
    some ((0 : Int32), M)
  else
    (fX7_pairAt n0 ((3 : Int32) + ((3 : Int32) * x3)) M).bind fun z88 =>
    if z88.1 ≤ (999 : Int32) then
      k28 x2 (x3 + (1 : Int32)) z88.2
    else
      some ((0 : Int32), z88.2)
def fX6_isImage_70 (n0 : Nat) (k28 : Int32 → Int32 → Mem → Option (Int32 × Mem)) (x2 : Int32) (x3 : Int32) (M : Mem) : Option (Int32 × Mem) :=
  fX6_isImage_75 n0 k28 x2 x3 (1 : Int32) M
def bX6_isImage_107 (n0 : Nat) (k107 : Int32 → Int32 → Mem → Option (Int32 × Mem)) (x2 : Int32) (x3 : Int32) (M : Mem) : Option (Int32 × Mem) :=
  if (gI M (128 * (gR M 1280) + 12)) ≤ x3 then
    (fX7_at n0 (x2 - (1 : Int32)) M).bind fun z151 =>
    (fX6_checkOf n0 6 (x2 - (1 : Int32)) z151.2).bind fun z161 =>
    if z151.1 = z161.1 then
      some ((1 : Int32), z161.2)
    else
      some ((0 : Int32), z161.2)
  else
    (fX7_at n0 (((2 : Int32) + ((3 : Int32) * (gI M (128 * (gR M 1280) + 5)))) + x3) M).bind fun z132 =>
    if z132.1 ≤ (1 : Int32) then
      k107 x2 (x3 + (1 : Int32)) z132.2
    else
      some ((0 : Int32), z132.2)
def fX6_isImage_107 (n0 : Nat) : Int32 → Int32 → Mem → Option (Int32 × Mem) := loopN (bX6_isImage_107 n0) (fun _ _ _ => none) n0
def bX6_isImage_28 (n0 : Nat) (k28 : Int32 → Int32 → Mem → Option (Int32 × Mem)) (x2 : Int32) (x3 : Int32) (M : Mem) : Option (Int32 × Mem) :=
  if (gI M (128 * (gR M 1280) + 5)) ≤ x3 then
    fX6_isImage_107 n0 x2 (0 : Int32) M
  else
    (fX7_at n0 ((2 : Int32) + ((3 : Int32) * x3)) M).bind fun z45 =>
    if z45.1 = (255 : Int32) then
      fX6_isImage_70 n0 k28 x2 x3 z45.2
    else
      (fX9_isThing n0 (gR z45.2 1280) z45.1 z45.2).bind fun z64 =>
      if z64.1 = 0 then
        fX6_isImage_75 n0 k28 x2 x3 (0 : Int32) z64.2
      else
        fX6_isImage_70 n0 k28 x2 x3 z64.2
def fX6_isImage_28 (n0 : Nat) : Int32 → Int32 → Mem → Option (Int32 × Mem) := loopN (bX6_isImage_28 n0) (fun _ _ _ => none) n0
def fX6_isImage (n0 : Nat) (M : Mem) : Option (Int32 × Mem) :=
  (fX6_imageSize n0 M).bind fun z1 =>
  if (gI z1.2 641) = z1.1 then
    (fX7_pairAt n0 (0 : Int32) z1.2).bind fun z15 =>
    if z15.1 ≤ (9999 : Int32) then
      fX6_isImage_28 n0 z1.1 (0 : Int32) z15.2
    else
      some ((0 : Int32), z15.2)
  else
    some ((0 : Int32), z1.2)
theorem tfX6_isImage_75 (n0 : Nat) (hO : OKc p (rmL 3) s m args meth c LX D cy ad cX6_isImage RX6 6 3 (some .boolean)) (k28 : Int32 → Int32 → Mem → Option (Int32 × Mem)) (hk28 : ∀ (x2 : Int32) (x3 : Int32) (M : Mem), BL p l e (rmL 3) s m args below meth c LX D cy ad 6 (QI LX D cy ad) 28 [(0, .ref (ad 10)), (1, .ref (ad 5)), (2, .int x2), (3, .int x3)] [] M (k28 x2 x3 M)) (x2 : Int32) (x3 : Int32) (u0 : Int32) (M : Mem) : BL p l e (rmL 3) s m args below meth c LX D cy ad 6 (QI LX D cy ad) 75 [(0, .ref (ad 10)), (1, .ref (ad 5)), (2, .int x2), (3, .int x3)] [.int u0] M (fX6_isImage_75 n0 k28 x2 x3 u0 M) := by
  unfold fX6_isImage_75
  refine b_istore hO dX6_isImage_75 (by decide) (lv' := [(5, .int _), (0, .ref _), (1, .ref _), (2, .int _), (3, .int _)]) rfl ?_
  refine b_iload hO dX6_isImage_77 0 rfl ?_
  refine b_if_eq hO dX6_isImage_79 (tgt := 97) (by decide) ?_ ?_
  · refine b_iconst hO dX6_isImage_97 ic_i_0 ?_
    exact b_zretc hO (Or.inl rfl) dX6_isImage_98
  · refine b_aload_n hO dX6_isImage_82 2 rfl rfl ?_
    refine b_iconst hO dX6_isImage_83 ic_i_3 ?_
    refine b_iconst hO dX6_isImage_84 ic_i_3 ?_
    refine b_iload_n hO dX6_isImage_85 4 rfl rfl ?_
    refine b_imul hO dX6_isImage_86 ?_
    refine b_iadd hO dX6_isImage_87 ?_
    refine b_callVI hO mdX7_pairAt mvX7_pairAt w1221 (ci := 7) rfl rfl (by decide) kLX_5 (As := [.int _]) (st := []) (ctX7_pairAt n0 hO.2.2.2.2.2.2.1 _ _) (Nat.le_of_ble_eq_true rfl) rfl rfl (Nat.le_of_ble_eq_true rfl) dX6_isImage_88 (fun z88 => ?_)
    refine b_sipush hO dX6_isImage_91 ic_s_999 ?_
    refine b_icmp_le hO dX6_isImage_94 (tgt := 99) (by decide) ?_ ?_
    · refine b_iinc hO dX6_isImage_99 4 rfl ic_i_1 (by decide) (lv' := [(3, .int _), (5, .int _), (0, .ref _), (1, .ref _), (2, .int _)]) rfl ?_
      refine b_goto hO dX6_isImage_102 (tgt := 28) (by decide) ?_
      refine b_sub [2, 3, 4, 0] rfl ?_
      exact hk28 _ _ _
    · refine b_iconst hO dX6_isImage_97 ic_i_0 ?_
      exact b_zretc hO (Or.inl rfl) dX6_isImage_98
theorem tfX6_isImage_70 (n0 : Nat) (hO : OKc p (rmL 3) s m args meth c LX D cy ad cX6_isImage RX6 6 3 (some .boolean)) (k28 : Int32 → Int32 → Mem → Option (Int32 × Mem)) (hk28 : ∀ (x2 : Int32) (x3 : Int32) (M : Mem), BL p l e (rmL 3) s m args below meth c LX D cy ad 6 (QI LX D cy ad) 28 [(0, .ref (ad 10)), (1, .ref (ad 5)), (2, .int x2), (3, .int x3)] [] M (k28 x2 x3 M)) (x2 : Int32) (x3 : Int32) (M : Mem) : BL p l e (rmL 3) s m args below meth c LX D cy ad 6 (QI LX D cy ad) 70 [(0, .ref (ad 10)), (1, .ref (ad 5)), (2, .int x2), (3, .int x3)] [] M (fX6_isImage_70 n0 k28 x2 x3 M) := by
  unfold fX6_isImage_70
  refine b_iconst hO dX6_isImage_70 ic_i_1 ?_
  refine b_goto hO dX6_isImage_71 (tgt := 75) (by decide) ?_
  exact tfX6_isImage_75 n0 hO k28 hk28 _ _ _ _
theorem tbX6_isImage_107 (n0 : Nat) (hO : OKc p (rmL 3) s m args meth c LX D cy ad cX6_isImage RX6 6 3 (some .boolean)) (k107 : Int32 → Int32 → Mem → Option (Int32 × Mem)) (hk107 : ∀ (x2 : Int32) (x3 : Int32) (M : Mem), BL p l e (rmL 3) s m args below meth c LX D cy ad 6 (QI LX D cy ad) 107 [(0, .ref (ad 10)), (1, .ref (ad 5)), (2, .int x2), (3, .int x3)] [] M (k107 x2 x3 M)) (x2 : Int32) (x3 : Int32) (M : Mem) : BL p l e (rmL 3) s m args below meth c LX D cy ad 6 (QI LX D cy ad) 107 [(0, .ref (ad 10)), (1, .ref (ad 5)), (2, .int x2), (3, .int x3)] [] M (bX6_isImage_107 n0 k107 x2 x3 M) := by
  unfold bX6_isImage_107
  refine b_iload_n hO dX6_isImage_107 3 rfl rfl ?_
  refine b_aload_n hO dX6_isImage_108 0 rfl rfl ?_
  refine b_getR hO flX6_34 kLX_10 (id := 1280) rfl rfl (rk := 9) rfl (by decide) dX6_isImage_109 (fun hg1 => ?_)
  refine b_get hO flX6_50 hg1 (v := .int (gI _ (128 * (gR M 1280) + 12))) rfl dX6_isImage_112 ?_
  refine b_icmp_ge hO dX6_isImage_115 (tgt := 147) (by decide) ?_ ?_
  · refine b_aload_n hO dX6_isImage_147 1 rfl rfl ?_
    refine b_iload_n hO dX6_isImage_148 2 rfl rfl ?_
    refine b_iconst hO dX6_isImage_149 ic_i_1 ?_
    refine b_isub hO dX6_isImage_150 ?_
    refine b_callVI hO mdX7_at mvX7_at w1226 (ci := 7) rfl rfl (by decide) kLX_5 (As := [.int _]) (st := []) (ctX7_at n0 hO.2.2.2.2.2.2.1 _ _) (Nat.le_of_ble_eq_true rfl) rfl rfl (Nat.le_of_ble_eq_true rfl) dX6_isImage_151 (fun z151 => ?_)
    refine b_aload_n hO dX6_isImage_154 1 rfl rfl ?_
    refine b_get hO flX6_120 kLX_5 (v := .ref (ad 6)) rfl dX6_isImage_155 ?_
    refine b_iload_n hO dX6_isImage_158 2 rfl rfl ?_
    refine b_iconst hO dX6_isImage_159 ic_i_1 ?_
    refine b_isub hO dX6_isImage_160 ?_
    refine b_callSI hO mdX6_checkOf w1207 w1206 (As := [.ref _, .int _]) (st := [.int _]) (ctX6_checkOf n0 _ kLX_6 hO.2.2.2.2.2.2.1 _ _) (Nat.le_of_ble_eq_true rfl) rfl rfl (Nat.le_of_ble_eq_true rfl) dX6_isImage_161 (fun z161 => ?_)
    refine b_icmp_ne hO dX6_isImage_164 (tgt := 171) (by decide) ?_ ?_
    · refine b_iconst hO dX6_isImage_171 ic_i_0 ?_
      exact b_zretc hO (Or.inl rfl) dX6_isImage_172
    · refine b_iconst hO dX6_isImage_167 ic_i_1 ?_
      refine b_goto hO dX6_isImage_168 (tgt := 172) (by decide) ?_
      exact b_zretc hO (Or.inr rfl) dX6_isImage_172
  · refine b_aload_n hO dX6_isImage_118 1 rfl rfl ?_
    refine b_iconst hO dX6_isImage_119 ic_i_2 ?_
    refine b_iconst hO dX6_isImage_120 ic_i_3 ?_
    refine b_aload_n hO dX6_isImage_121 0 rfl rfl ?_
    refine b_getR hO flX6_34 kLX_10 (id := 1280) rfl rfl (rk := 9) rfl (by decide) dX6_isImage_122 (fun hg2 => ?_)
    refine b_get hO flX6_38 hg2 (v := .int (gI _ (128 * (gR M 1280) + 5))) rfl dX6_isImage_125 ?_
    refine b_imul hO dX6_isImage_128 ?_
    refine b_iadd hO dX6_isImage_129 ?_
    refine b_iload_n hO dX6_isImage_130 3 rfl rfl ?_
    refine b_iadd hO dX6_isImage_131 ?_
    refine b_callVI hO mdX7_at mvX7_at w1226 (ci := 7) rfl rfl (by decide) kLX_5 (As := [.int _]) (st := []) (ctX7_at n0 hO.2.2.2.2.2.2.1 _ _) (Nat.le_of_ble_eq_true rfl) rfl rfl (Nat.le_of_ble_eq_true rfl) dX6_isImage_132 (fun z132 => ?_)
    refine b_iconst hO dX6_isImage_135 ic_i_1 ?_
    refine b_icmp_le hO dX6_isImage_136 (tgt := 141) (by decide) ?_ ?_
    · refine b_iinc hO dX6_isImage_141 3 rfl ic_i_1 (by decide) (lv' := [(3, .int _), (0, .ref _), (1, .ref _), (2, .int _)]) rfl ?_
      refine b_goto hO dX6_isImage_144 (tgt := 107) (by decide) ?_
      refine b_sub [1, 2, 3, 0] rfl ?_
      exact hk107 _ _ _
    · refine b_iconst hO dX6_isImage_139 ic_i_0 ?_
      exact b_zretc hO (Or.inl rfl) dX6_isImage_140
theorem lX6_isImage_107 (n0 : Nat) (hO : OKc p (rmL 3) s m args meth c LX D cy ad cX6_isImage RX6 6 3 (some .boolean)) : ∀ (w : Nat) (x2 : Int32) (x3 : Int32) (M : Mem), BL p l e (rmL 3) s m args below meth c LX D cy ad 6 (QI LX D cy ad) 107 [(0, .ref (ad 10)), (1, .ref (ad 5)), (2, .int x2), (3, .int x3)] [] M (loopN (bX6_isImage_107 n0) (fun _ _ _ => none) w x2 x3 M) := by
  intro w
  induction w with
  | zero =>
    intros
    exact b_none
  | succ w ih =>
    intro x2 x3 M
    exact tbX6_isImage_107 n0 hO _ ih x2 x3 M
theorem tfX6_isImage_107 (n0 : Nat) (hO : OKc p (rmL 3) s m args meth c LX D cy ad cX6_isImage RX6 6 3 (some .boolean)) (x2 : Int32) (x3 : Int32) (M : Mem) : BL p l e (rmL 3) s m args below meth c LX D cy ad 6 (QI LX D cy ad) 107 [(0, .ref (ad 10)), (1, .ref (ad 5)), (2, .int x2), (3, .int x3)] [] M (fX6_isImage_107 n0 x2 x3 M) := lX6_isImage_107 n0 hO n0 x2 x3 M
theorem tbX6_isImage_28 (n0 : Nat) (hO : OKc p (rmL 3) s m args meth c LX D cy ad cX6_isImage RX6 6 3 (some .boolean)) (k28 : Int32 → Int32 → Mem → Option (Int32 × Mem)) (hk28 : ∀ (x2 : Int32) (x3 : Int32) (M : Mem), BL p l e (rmL 3) s m args below meth c LX D cy ad 6 (QI LX D cy ad) 28 [(0, .ref (ad 10)), (1, .ref (ad 5)), (2, .int x2), (3, .int x3)] [] M (k28 x2 x3 M)) (x2 : Int32) (x3 : Int32) (M : Mem) : BL p l e (rmL 3) s m args below meth c LX D cy ad 6 (QI LX D cy ad) 28 [(0, .ref (ad 10)), (1, .ref (ad 5)), (2, .int x2), (3, .int x3)] [] M (bX6_isImage_28 n0 k28 x2 x3 M) := by
  unfold bX6_isImage_28
  refine b_iload_n hO dX6_isImage_28 3 rfl rfl ?_
  refine b_aload_n hO dX6_isImage_29 0 rfl rfl ?_
  refine b_getR hO flX6_34 kLX_10 (id := 1280) rfl rfl (rk := 9) rfl (by decide) dX6_isImage_30 (fun hg1 => ?_)
  refine b_get hO flX6_38 hg1 (v := .int (gI _ (128 * (gR M 1280) + 5))) rfl dX6_isImage_33 ?_
  refine b_icmp_ge hO dX6_isImage_36 (tgt := 105) (by decide) ?_ ?_
  · refine b_iconst hO dX6_isImage_105 ic_i_0 ?_
    refine b_istore_n hO dX6_isImage_106 rfl (by decide) (lv' := [(3, .int _), (0, .ref _), (1, .ref _), (2, .int _)]) rfl ?_
    refine b_sub [1, 2, 3, 0] rfl ?_
    exact tfX6_isImage_107 n0 hO _ _ _
  · refine b_aload_n hO dX6_isImage_39 1 rfl rfl ?_
    refine b_iconst hO dX6_isImage_40 ic_i_2 ?_
    refine b_iconst hO dX6_isImage_41 ic_i_3 ?_
    refine b_iload_n hO dX6_isImage_42 3 rfl rfl ?_
    refine b_imul hO dX6_isImage_43 ?_
    refine b_iadd hO dX6_isImage_44 ?_
    refine b_callVI hO mdX7_at mvX7_at w1226 (ci := 7) rfl rfl (by decide) kLX_5 (As := [.int _]) (st := []) (ctX7_at n0 hO.2.2.2.2.2.2.1 _ _) (Nat.le_of_ble_eq_true rfl) rfl rfl (Nat.le_of_ble_eq_true rfl) dX6_isImage_45 (fun z45 => ?_)
    refine b_istore hO dX6_isImage_48 (by decide) (lv' := [(4, .int _), (0, .ref _), (1, .ref _), (2, .int _), (3, .int _)]) rfl ?_
    refine b_iload hO dX6_isImage_50 0 rfl ?_
    refine b_sipush hO dX6_isImage_52 ic_s_255 ?_
    refine b_icmp_eq hO dX6_isImage_55 (tgt := 70) (by decide) ?_ ?_
    · refine b_sub [1, 2, 3, 4] rfl ?_
      exact tfX6_isImage_70 n0 hO k28 hk28 _ _ _
    · refine b_aload_n hO dX6_isImage_58 1 rfl rfl ?_
      refine b_getR hO flX6_34 kLX_10 (id := 1280) rfl rfl (rk := 9) rfl (by decide) dX6_isImage_59 (fun hg2 => ?_)
      refine b_iload hO dX6_isImage_62 0 rfl ?_
      refine b_callVI hO mdX9_isThing mvX9_isThing w1227 (ci := 9) rfl rfl (by decide) hg2 (As := [.int _]) (st := []) (ctX9_isThing n0 _ hg2 hO.2.2.2.2.2.2.1 _ _) (Nat.le_of_ble_eq_true rfl) rfl rfl (Nat.le_of_ble_eq_true rfl) dX6_isImage_64 (fun z64 => ?_)
      refine b_if_eq hO dX6_isImage_67 (tgt := 74) (by decide) ?_ ?_
      · refine b_iconst hO dX6_isImage_74 ic_i_0 ?_
        refine b_sub [1, 2, 3, 4] rfl ?_
        exact tfX6_isImage_75 n0 hO k28 hk28 _ _ _ _
      · refine b_sub [1, 2, 3, 4] rfl ?_
        exact tfX6_isImage_70 n0 hO k28 hk28 _ _ _
theorem lX6_isImage_28 (n0 : Nat) (hO : OKc p (rmL 3) s m args meth c LX D cy ad cX6_isImage RX6 6 3 (some .boolean)) : ∀ (w : Nat) (x2 : Int32) (x3 : Int32) (M : Mem), BL p l e (rmL 3) s m args below meth c LX D cy ad 6 (QI LX D cy ad) 28 [(0, .ref (ad 10)), (1, .ref (ad 5)), (2, .int x2), (3, .int x3)] [] M (loopN (bX6_isImage_28 n0) (fun _ _ _ => none) w x2 x3 M) := by
  intro w
  induction w with
  | zero =>
    intros
    exact b_none
  | succ w ih =>
    intro x2 x3 M
    exact tbX6_isImage_28 n0 hO _ ih x2 x3 M
theorem tfX6_isImage_28 (n0 : Nat) (hO : OKc p (rmL 3) s m args meth c LX D cy ad cX6_isImage RX6 6 3 (some .boolean)) (x2 : Int32) (x3 : Int32) (M : Mem) : BL p l e (rmL 3) s m args below meth c LX D cy ad 6 (QI LX D cy ad) 28 [(0, .ref (ad 10)), (1, .ref (ad 5)), (2, .int x2), (3, .int x3)] [] M (fX6_isImage_28 n0 x2 x3 M) := lX6_isImage_28 n0 hO n0 x2 x3 M
theorem tfX6_isImage (n0 : Nat) (hO : OKc p (rmL 3) s m args meth c LX D cy ad cX6_isImage RX6 6 3 (some .boolean)) (M : Mem) : BL p l e (rmL 3) s m args below meth c LX D cy ad 6 (QI LX D cy ad) 0 [(0, .ref (ad 10)), (1, .ref (ad 5))] [] M (fX6_isImage n0 M) := by
  unfold fX6_isImage
  refine b_aload_n hO dX6_isImage_0 0 rfl rfl ?_
  refine b_callVI hO mdX6_imageSize mvX6_imageSize w1202 (ci := 6) rfl rfl (by decide) kLX_10 (As := []) (st := []) (ctX6_imageSize n0 hO.2.2.2.2.2.2.1 _) (Nat.le_of_ble_eq_true rfl) rfl rfl (Nat.le_of_ble_eq_true rfl) dX6_isImage_1 (fun z1 => ?_)
  refine b_istore_n hO dX6_isImage_4 rfl (by decide) (lv' := [(2, .int _), (0, .ref _), (1, .ref _)]) rfl ?_
  refine b_aload_n hO dX6_isImage_5 2 rfl rfl ?_
  refine b_get hO flX6_104 kLX_5 (v := .int (gI _ 641)) rfl dX6_isImage_6 ?_
  refine b_iload_n hO dX6_isImage_9 0 rfl rfl ?_
  refine b_icmp_ne hO dX6_isImage_10 (tgt := 24) (by decide) ?_ ?_
  · refine b_iconst hO dX6_isImage_24 ic_i_0 ?_
    exact b_zretc hO (Or.inl rfl) dX6_isImage_25
  · refine b_aload_n hO dX6_isImage_13 2 rfl rfl ?_
    refine b_iconst hO dX6_isImage_14 ic_i_0 ?_
    refine b_callVI hO mdX7_pairAt mvX7_pairAt w1221 (ci := 7) rfl rfl (by decide) kLX_5 (As := [.int _]) (st := []) (ctX7_pairAt n0 hO.2.2.2.2.2.2.1 _ _) (Nat.le_of_ble_eq_true rfl) rfl rfl (Nat.le_of_ble_eq_true rfl) dX6_isImage_15 (fun z15 => ?_)
    refine b_sipush hO dX6_isImage_18 ic_s_9999 ?_
    refine b_icmp_le hO dX6_isImage_21 (tgt := 26) (by decide) ?_ ?_
    · refine b_iconst hO dX6_isImage_26 ic_i_0 ?_
      refine b_istore_n hO dX6_isImage_27 rfl (by decide) (lv' := [(3, .int _), (2, .int _), (0, .ref _), (1, .ref _)]) rfl ?_
      refine b_sub [2, 3, 1, 0] rfl ?_
      exact tfX6_isImage_28 n0 hO _ _ _
    · refine b_iconst hO dX6_isImage_24 ic_i_0 ?_
      exact b_zretc hO (Or.inl rfl) dX6_isImage_25
theorem ctX6_isImage (n0 : Nat) (hI : Inj LX ad) (M : Mem) : CT l LX D cy ad yX6_isImage cX6_isImage 6 (some .boolean) 3 (QI LX D cy ad) [.ref (ad 10), .ref (ad 5)] M (fX6_isImage n0 M) :=
  CT.mk LXok hI (by decide) (Nat.le_of_ble_eq_true rfl) (fun hO => tfX6_isImage n0 hO M)
/-! X6_readImage -/
def fX6_readImage_54 (n0 : Nat) (k16 : Int32 → Mem → Option (Mem)) (x2 : Int32) (u1 : Int32) (u2 : Int32) (M : Mem) : Option (Mem) :=
  if oob u1 5 then none else
  bnd (sA M 11 (Int32.toNatClampNeg u1) u2) fun M54 =>
  (fX7_pairAt n0 ((3 : Int32) + ((3 : Int32) * x2)) M54).bind fun z66 =>
  if oob x2 5 then none else
  bnd (sA z66.2 12 (Int32.toNatClampNeg x2) z66.1) fun M69 =>
  k16 (x2 + (1 : Int32)) M69
def bX6_readImage_78 (n0 : Nat) (k78 : Int32 → Mem → Option (Mem)) (x2 : Int32) (M : Mem) : Option (Mem) :=
  if (gI M (128 * (gR M 1280) + 12)) ≤ x2 then
    some M
  else
    (fX7_at n0 (((2 : Int32) + ((3 : Int32) * (gI M (128 * (gR M 1280) + 5)))) + x2) M).bind fun z108 =>
    if oob x2 6 then none else
    bnd (sA z108.2 13 (Int32.toNatClampNeg x2) z108.1) fun M111 =>
    k78 (x2 + (1 : Int32)) M111
def fX6_readImage_78 (n0 : Nat) : Int32 → Mem → Option (Mem) := loopN (bX6_readImage_78 n0) (fun _ _ => none) n0
def bX6_readImage_16 (n0 : Nat) (k16 : Int32 → Mem → Option (Mem)) (x2 : Int32) (M : Mem) : Option (Mem) :=
  if (gI M (128 * (gR M 1280) + 5)) ≤ x2 then
    fX6_readImage_78 n0 (0 : Int32) M
  else
    (fX7_at n0 ((2 : Int32) + ((3 : Int32) * x2)) M).bind fun z33 =>
    if z33.1 = (255 : Int32) then
      fX6_readImage_54 n0 k16 x2 x2 (-1 : Int32) z33.2
    else
      fX6_readImage_54 n0 k16 x2 x2 z33.1 z33.2
def fX6_readImage_16 (n0 : Nat) : Int32 → Mem → Option (Mem) := loopN (bX6_readImage_16 n0) (fun _ _ => none) n0
def fX6_readImage (n0 : Nat) (M : Mem) : Option (Mem) :=
  (fX7_pairAt n0 (0 : Int32) M).bind fun z3 =>
  bnd (sI z3.2 1281 z3.1) fun M6 =>
  bnd (sI M6 1285 (0 : Int32)) fun M11 =>
  fX6_readImage_16 n0 (0 : Int32) M11
theorem tfX6_readImage_54 (n0 : Nat) (hO : OKc p (rmL 3) s m args meth c LX D cy ad cX6_readImage RX6 4 3 none) (k16 : Int32 → Mem → Option (Mem)) (hk16 : ∀ (x2 : Int32) (M : Mem), BL p l e (rmL 3) s m args below meth c LX D cy ad 4 (QV LX D cy ad) 16 [(0, .ref (ad 10)), (1, .ref (ad 5)), (2, .int x2)] [] M (k16 x2 M)) (x2 : Int32) (u1 : Int32) (u2 : Int32) (M : Mem) : BL p l e (rmL 3) s m args below meth c LX D cy ad 4 (QV LX D cy ad) 54 [(0, .ref (ad 10)), (1, .ref (ad 5)), (2, .int x2)] [.int u2, .int u1, .ref (ad 11)] M (fX6_readImage_54 n0 k16 x2 u1 u2 M) := by
  unfold fX6_readImage_54
  refine b_iast hO kLX_11 (n := 5) rfl dX6_readImage_54 ?_
  refine b_bnd (fun M54 => ?_)
  refine b_aload_n hO dX6_readImage_55 0 rfl rfl ?_
  refine b_get hO flX6_19 kLX_10 (v := .ref (ad 12)) rfl dX6_readImage_56 ?_
  refine b_iload_n hO dX6_readImage_59 2 rfl rfl ?_
  refine b_aload_n hO dX6_readImage_60 1 rfl rfl ?_
  refine b_iconst hO dX6_readImage_61 ic_i_3 ?_
  refine b_iconst hO dX6_readImage_62 ic_i_3 ?_
  refine b_iload_n hO dX6_readImage_63 2 rfl rfl ?_
  refine b_imul hO dX6_readImage_64 ?_
  refine b_iadd hO dX6_readImage_65 ?_
  refine b_callVI hO mdX7_pairAt mvX7_pairAt w1221 (ci := 7) rfl rfl (by decide) kLX_5 (As := [.int _]) (st := [.int _, .ref _]) (ctX7_pairAt n0 hO.2.2.2.2.2.2.1 _ _) (Nat.le_of_ble_eq_true rfl) rfl rfl (Nat.le_of_ble_eq_true rfl) dX6_readImage_66 (fun z66 => ?_)
  refine b_iast hO kLX_12 (n := 5) rfl dX6_readImage_69 ?_
  refine b_bnd (fun M69 => ?_)
  refine b_iinc hO dX6_readImage_70 2 rfl ic_i_1 (by decide) (lv' := [(2, .int _), (0, .ref _), (1, .ref _)]) rfl ?_
  refine b_goto hO dX6_readImage_73 (tgt := 16) (by decide) ?_
  refine b_sub [1, 2, 0] rfl ?_
  exact hk16 _ _
theorem tbX6_readImage_78 (n0 : Nat) (hO : OKc p (rmL 3) s m args meth c LX D cy ad cX6_readImage RX6 4 3 none) (k78 : Int32 → Mem → Option (Mem)) (hk78 : ∀ (x2 : Int32) (M : Mem), BL p l e (rmL 3) s m args below meth c LX D cy ad 4 (QV LX D cy ad) 78 [(0, .ref (ad 10)), (1, .ref (ad 5)), (2, .int x2)] [] M (k78 x2 M)) (x2 : Int32) (M : Mem) : BL p l e (rmL 3) s m args below meth c LX D cy ad 4 (QV LX D cy ad) 78 [(0, .ref (ad 10)), (1, .ref (ad 5)), (2, .int x2)] [] M (bX6_readImage_78 n0 k78 x2 M) := by
  unfold bX6_readImage_78
  refine b_iload_n hO dX6_readImage_78 2 rfl rfl ?_
  refine b_aload_n hO dX6_readImage_79 0 rfl rfl ?_
  refine b_getR hO flX6_34 kLX_10 (id := 1280) rfl rfl (rk := 9) rfl (by decide) dX6_readImage_80 (fun hg1 => ?_)
  refine b_get hO flX6_50 hg1 (v := .int (gI _ (128 * (gR M 1280) + 12))) rfl dX6_readImage_83 ?_
  refine b_icmp_ge hO dX6_readImage_86 (tgt := 118) (by decide) ?_ ?_
  · exact b_vret hO dX6_readImage_118
  · refine b_aload_n hO dX6_readImage_89 0 rfl rfl ?_
    refine b_get hO flX6_22 kLX_10 (v := .ref (ad 13)) rfl dX6_readImage_90 ?_
    refine b_iload_n hO dX6_readImage_93 2 rfl rfl ?_
    refine b_aload_n hO dX6_readImage_94 1 rfl rfl ?_
    refine b_iconst hO dX6_readImage_95 ic_i_2 ?_
    refine b_iconst hO dX6_readImage_96 ic_i_3 ?_
    refine b_aload_n hO dX6_readImage_97 0 rfl rfl ?_
    refine b_getR hO flX6_34 kLX_10 (id := 1280) rfl rfl (rk := 9) rfl (by decide) dX6_readImage_98 (fun hg2 => ?_)
    refine b_get hO flX6_38 hg2 (v := .int (gI _ (128 * (gR M 1280) + 5))) rfl dX6_readImage_101 ?_
    refine b_imul hO dX6_readImage_104 ?_
    refine b_iadd hO dX6_readImage_105 ?_
    refine b_iload_n hO dX6_readImage_106 2 rfl rfl ?_
    refine b_iadd hO dX6_readImage_107 ?_
    refine b_callVI hO mdX7_at mvX7_at w1226 (ci := 7) rfl rfl (by decide) kLX_5 (As := [.int _]) (st := [.int _, .ref _]) (ctX7_at n0 hO.2.2.2.2.2.2.1 _ _) (Nat.le_of_ble_eq_true rfl) rfl rfl (Nat.le_of_ble_eq_true rfl) dX6_readImage_108 (fun z108 => ?_)
    refine b_iast hO kLX_13 (n := 6) rfl dX6_readImage_111 ?_
    refine b_bnd (fun M111 => ?_)
    refine b_iinc hO dX6_readImage_112 2 rfl ic_i_1 (by decide) (lv' := [(2, .int _), (0, .ref _), (1, .ref _)]) rfl ?_
    refine b_goto hO dX6_readImage_115 (tgt := 78) (by decide) ?_
    refine b_sub [1, 2, 0] rfl ?_
    exact hk78 _ _
theorem lX6_readImage_78 (n0 : Nat) (hO : OKc p (rmL 3) s m args meth c LX D cy ad cX6_readImage RX6 4 3 none) : ∀ (w : Nat) (x2 : Int32) (M : Mem), BL p l e (rmL 3) s m args below meth c LX D cy ad 4 (QV LX D cy ad) 78 [(0, .ref (ad 10)), (1, .ref (ad 5)), (2, .int x2)] [] M (loopN (bX6_readImage_78 n0) (fun _ _ => none) w x2 M) := by
  intro w
  induction w with
  | zero =>
    intros
    exact b_none
  | succ w ih =>
    intro x2 M
    exact tbX6_readImage_78 n0 hO _ ih x2 M
theorem tfX6_readImage_78 (n0 : Nat) (hO : OKc p (rmL 3) s m args meth c LX D cy ad cX6_readImage RX6 4 3 none) (x2 : Int32) (M : Mem) : BL p l e (rmL 3) s m args below meth c LX D cy ad 4 (QV LX D cy ad) 78 [(0, .ref (ad 10)), (1, .ref (ad 5)), (2, .int x2)] [] M (fX6_readImage_78 n0 x2 M) := lX6_readImage_78 n0 hO n0 x2 M
theorem tbX6_readImage_16 (n0 : Nat) (hO : OKc p (rmL 3) s m args meth c LX D cy ad cX6_readImage RX6 4 3 none) (k16 : Int32 → Mem → Option (Mem)) (hk16 : ∀ (x2 : Int32) (M : Mem), BL p l e (rmL 3) s m args below meth c LX D cy ad 4 (QV LX D cy ad) 16 [(0, .ref (ad 10)), (1, .ref (ad 5)), (2, .int x2)] [] M (k16 x2 M)) (x2 : Int32) (M : Mem) : BL p l e (rmL 3) s m args below meth c LX D cy ad 4 (QV LX D cy ad) 16 [(0, .ref (ad 10)), (1, .ref (ad 5)), (2, .int x2)] [] M (bX6_readImage_16 n0 k16 x2 M) := by
  unfold bX6_readImage_16
  refine b_iload_n hO dX6_readImage_16 2 rfl rfl ?_
  refine b_aload_n hO dX6_readImage_17 0 rfl rfl ?_
  refine b_getR hO flX6_34 kLX_10 (id := 1280) rfl rfl (rk := 9) rfl (by decide) dX6_readImage_18 (fun hg1 => ?_)
  refine b_get hO flX6_38 hg1 (v := .int (gI _ (128 * (gR M 1280) + 5))) rfl dX6_readImage_21 ?_
  refine b_icmp_ge hO dX6_readImage_24 (tgt := 76) (by decide) ?_ ?_
  · refine b_iconst hO dX6_readImage_76 ic_i_0 ?_
    refine b_istore_n hO dX6_readImage_77 rfl (by decide) (lv' := [(2, .int _), (0, .ref _), (1, .ref _)]) rfl ?_
    refine b_sub [1, 2, 0] rfl ?_
    exact tfX6_readImage_78 n0 hO _ _
  · refine b_aload_n hO dX6_readImage_27 1 rfl rfl ?_
    refine b_iconst hO dX6_readImage_28 ic_i_2 ?_
    refine b_iconst hO dX6_readImage_29 ic_i_3 ?_
    refine b_iload_n hO dX6_readImage_30 2 rfl rfl ?_
    refine b_imul hO dX6_readImage_31 ?_
    refine b_iadd hO dX6_readImage_32 ?_
    refine b_callVI hO mdX7_at mvX7_at w1226 (ci := 7) rfl rfl (by decide) kLX_5 (As := [.int _]) (st := []) (ctX7_at n0 hO.2.2.2.2.2.2.1 _ _) (Nat.le_of_ble_eq_true rfl) rfl rfl (Nat.le_of_ble_eq_true rfl) dX6_readImage_33 (fun z33 => ?_)
    refine b_istore_n hO dX6_readImage_36 rfl (by decide) (lv' := [(3, .int _), (0, .ref _), (1, .ref _), (2, .int _)]) rfl ?_
    refine b_aload_n hO dX6_readImage_37 1 rfl rfl ?_
    refine b_get hO flX6_15 kLX_10 (v := .ref (ad 11)) rfl dX6_readImage_38 ?_
    refine b_iload_n hO dX6_readImage_41 3 rfl rfl ?_
    refine b_iload_n hO dX6_readImage_42 0 rfl rfl ?_
    refine b_sipush hO dX6_readImage_43 ic_s_255 ?_
    refine b_icmp_ne hO dX6_readImage_46 (tgt := 53) (by decide) ?_ ?_
    · refine b_iload_n hO dX6_readImage_53 0 rfl rfl ?_
      refine b_sub [1, 2, 3] rfl ?_
      exact tfX6_readImage_54 n0 hO k16 hk16 _ _ _ _
    · refine b_iconst hO dX6_readImage_49 ic_i_m1 ?_
      refine b_goto hO dX6_readImage_50 (tgt := 54) (by decide) ?_
      refine b_sub [1, 2, 3] rfl ?_
      exact tfX6_readImage_54 n0 hO k16 hk16 _ _ _ _
theorem lX6_readImage_16 (n0 : Nat) (hO : OKc p (rmL 3) s m args meth c LX D cy ad cX6_readImage RX6 4 3 none) : ∀ (w : Nat) (x2 : Int32) (M : Mem), BL p l e (rmL 3) s m args below meth c LX D cy ad 4 (QV LX D cy ad) 16 [(0, .ref (ad 10)), (1, .ref (ad 5)), (2, .int x2)] [] M (loopN (bX6_readImage_16 n0) (fun _ _ => none) w x2 M) := by
  intro w
  induction w with
  | zero =>
    intros
    exact b_none
  | succ w ih =>
    intro x2 M
    exact tbX6_readImage_16 n0 hO _ ih x2 M
theorem tfX6_readImage_16 (n0 : Nat) (hO : OKc p (rmL 3) s m args meth c LX D cy ad cX6_readImage RX6 4 3 none) (x2 : Int32) (M : Mem) : BL p l e (rmL 3) s m args below meth c LX D cy ad 4 (QV LX D cy ad) 16 [(0, .ref (ad 10)), (1, .ref (ad 5)), (2, .int x2)] [] M (fX6_readImage_16 n0 x2 M) := lX6_readImage_16 n0 hO n0 x2 M
theorem tfX6_readImage (n0 : Nat) (hO : OKc p (rmL 3) s m args meth c LX D cy ad cX6_readImage RX6 4 3 none) (M : Mem) : BL p l e (rmL 3) s m args below meth c LX D cy ad 4 (QV LX D cy ad) 0 [(0, .ref (ad 10)), (1, .ref (ad 5))] [] M (fX6_readImage n0 M) := by
  unfold fX6_readImage
  refine b_aload_n hO dX6_readImage_0 0 rfl rfl ?_
  refine b_aload_n hO dX6_readImage_1 1 rfl rfl ?_
  refine b_iconst hO dX6_readImage_2 ic_i_0 ?_
  refine b_callVI hO mdX7_pairAt mvX7_pairAt w1221 (ci := 7) rfl rfl (by decide) kLX_5 (As := [.int _]) (st := [.ref _]) (ctX7_pairAt n0 hO.2.2.2.2.2.2.1 _ _) (Nat.le_of_ble_eq_true rfl) rfl rfl (Nat.le_of_ble_eq_true rfl) dX6_readImage_3 (fun z3 => ?_)
  refine b_putI hO flX6_9 kLX_10 rfl rfl rfl (id := 1281) rfl dX6_readImage_6 ?_
  refine b_bnd (fun M6 => ?_)
  refine b_aload_n hO dX6_readImage_9 0 rfl rfl ?_
  refine b_iconst hO dX6_readImage_10 ic_i_0 ?_
  refine b_putI hO flX6_25 kLX_10 rfl rfl rfl (id := 1285) rfl dX6_readImage_11 ?_
  refine b_bnd (fun M11 => ?_)
  refine b_iconst hO dX6_readImage_14 ic_i_0 ?_
  refine b_istore_n hO dX6_readImage_15 rfl (by decide) (lv' := [(2, .int _), (0, .ref _), (1, .ref _)]) rfl ?_
  refine b_sub [1, 2, 0] rfl ?_
  exact tfX6_readImage_16 n0 hO _ _
theorem ctX6_readImage (n0 : Nat) (hI : Inj LX ad) (M : Mem) : CT l LX D cy ad yX6_readImage cX6_readImage 4 none 3 (QV LX D cy ad) [.ref (ad 10), .ref (ad 5)] M (fX6_readImage n0 M) :=
  CT.mk LXok hI (by decide) (Nat.le_of_ble_eq_true rfl) (fun hO => tfX6_readImage n0 hO M)
end
end
section
section
variable {p : Program} {l : Launch} {e : Env} {s : State} {m : MethodId} {args : Array Value} {below : List Frame} {meth : Method} {c : Code} {D : va_G} {cy : Nat → ClassId} {ad : Nat → Nat} {dd : Nat}

/-! X2_remember -/
def fX2_remember (n0 : Nat) (M : Mem) : Option (Mem) :=
  if oob (gI M 2049) 20 then none else
  (fX6_save n0 (63 + Int32.toNatClampNeg (gI M 2049)) M).bind fun z10 =>
  if (20 : Int32) = 0 then none else
  bnd (sI z10 2049 (rem32 ((gI z10 2049) + (1 : Int32)) (20 : Int32))) fun M23 =>
  some (sI M23 2050 (imin (20 : Int32) ((gI M23 2050) + (1 : Int32))))
theorem tfX2_remember (n0 : Nat) (hO : OKc p (rmL 2) s m args meth c LX D cy ad cX2_remember RX2 2 2 none) (M : Mem) : BL p l e (rmL 2) s m args below meth c LX D cy ad 2 (QV LX D cy ad) 0 [(0, .ref (ad 16)), (1, .ref (ad 10))] [] M (fX2_remember n0 M) := by
  unfold fX2_remember
  refine b_aload_n hO dX2_remember_0 1 rfl rfl ?_
  refine b_aload_n hO dX2_remember_1 0 rfl rfl ?_
  refine b_get hO flX2_13 kLX_16 (v := .ref (ad 17)) rfl dX2_remember_2 ?_
  refine b_aload_n hO dX2_remember_5 0 rfl rfl ?_
  refine b_get hO flX2_18 kLX_16 (v := .int (gI _ 2049)) rfl dX2_remember_6 ?_
  refine b_aald hO kLX_17 (n := 20) rfl (b := 63) rfl dX2_remember_9 kg_17 (fun hg1 => ?_)
  refine b_callVV hO mdX6_save mvX6_save w1132 (ci := 6) rfl rfl (by decide) kLX_10 (As := [.ref _]) (st := []) (ctX6_save n0 _ hg1 hO.2.2.2.2.2.2.1 _) (Nat.le_of_ble_eq_true rfl) rfl rfl (Nat.le_of_ble_eq_true rfl) dX2_remember_10 (fun z10 => ?_)
  refine b_aload_n hO dX2_remember_13 0 rfl rfl ?_
  refine b_aload_n hO dX2_remember_14 0 rfl rfl ?_
  refine b_get hO flX2_18 kLX_16 (v := .int (gI _ 2049)) rfl dX2_remember_15 ?_
  refine b_iconst hO dX2_remember_18 ic_i_1 ?_
  refine b_iadd hO dX2_remember_19 ?_
  refine b_bipush hO dX2_remember_20 ic_b_20 ?_
  refine b_irem hO dX2_remember_22 ?_
  refine b_putI hO flX2_18 kLX_16 rfl rfl rfl (id := 2049) rfl dX2_remember_23 ?_
  refine b_bnd (fun M23 => ?_)
  refine b_aload_n hO dX2_remember_26 0 rfl rfl ?_
  refine b_bipush hO dX2_remember_27 ic_b_20 ?_
  refine b_aload_n hO dX2_remember_29 0 rfl rfl ?_
  refine b_get hO flX2_22 kLX_16 (v := .int (gI _ 2050)) rfl dX2_remember_30 ?_
  refine b_iconst hO dX2_remember_33 ic_i_1 ?_
  refine b_iadd hO dX2_remember_34 ?_
  refine b_mmin hO w1139 w591 w136 wm592 (by first | decide | omega) (Nat.le_of_ble_eq_true rfl) dX2_remember_35 ?_
  refine b_putI hO flX2_22 kLX_16 rfl rfl rfl (id := 2050) rfl dX2_remember_38 ?_
  exact b_vret hO dX2_remember_41
theorem ctX2_remember (n0 : Nat) (hI : Inj LX ad) (M : Mem) : CT l LX D cy ad yX2_remember cX2_remember 2 none 2 (QV LX D cy ad) [.ref (ad 16), .ref (ad 10)] M (fX2_remember n0 M) :=
  CT.mk LXok hI (by decide) (Nat.le_of_ble_eq_true rfl) (fun hO => tfX2_remember n0 hO M)
/-! X2_bringBack -/
def fX2_bringBack (n0 : Nat) (M : Mem) : Option (Int32 × Mem) :=
  if 0 < (gI M 2050) then
    if (20 : Int32) = 0 then none else
    bnd (sI M 2049 (rem32 (((gI M 2049) + (20 : Int32)) - (1 : Int32)) (20 : Int32))) fun M22 =>
    bnd (sI M22 2050 ((gI M22 2050) - (1 : Int32))) fun M32 =>
    if oob (gI M32 2049) 20 then none else
    (fX6_bringBack n0 (63 + Int32.toNatClampNeg (gI M32 2049)) M32).bind fun z45 =>
    some ((1 : Int32), z45)
  else
    some ((0 : Int32), M)
theorem tfX2_bringBack (n0 : Nat) (hO : OKc p (rmL 2) s m args meth c LX D cy ad cX2_bringBack RX2 2 2 (some .boolean)) (M : Mem) : BL p l e (rmL 2) s m args below meth c LX D cy ad 2 (QI LX D cy ad) 0 [(0, .ref (ad 16)), (1, .ref (ad 10))] [] M (fX2_bringBack n0 M) := by
  unfold fX2_bringBack
  refine b_aload_n hO dX2_bringBack_0 0 rfl rfl ?_
  refine b_get hO flX2_22 kLX_16 (v := .int (gI _ 2050)) rfl dX2_bringBack_1 ?_
  refine b_if_gt hO dX2_bringBack_4 (tgt := 9) (by decide) ?_ ?_
  · refine b_aload_n hO dX2_bringBack_9 0 rfl rfl ?_
    refine b_aload_n hO dX2_bringBack_10 0 rfl rfl ?_
    refine b_get hO flX2_18 kLX_16 (v := .int (gI _ 2049)) rfl dX2_bringBack_11 ?_
    refine b_bipush hO dX2_bringBack_14 ic_b_20 ?_
    refine b_iadd hO dX2_bringBack_16 ?_
    refine b_iconst hO dX2_bringBack_17 ic_i_1 ?_
    refine b_isub hO dX2_bringBack_18 ?_
    refine b_bipush hO dX2_bringBack_19 ic_b_20 ?_
    refine b_irem hO dX2_bringBack_21 ?_
    refine b_putI hO flX2_18 kLX_16 rfl rfl rfl (id := 2049) rfl dX2_bringBack_22 ?_
    refine b_bnd (fun M22 => ?_)
    refine b_aload_n hO dX2_bringBack_25 0 rfl rfl ?_
    refine b_dup hO dX2_bringBack_26 rfl ?_
    refine b_get hO flX2_22 kLX_16 (v := .int (gI _ 2050)) rfl dX2_bringBack_27 ?_
    refine b_iconst hO dX2_bringBack_30 ic_i_1 ?_
    refine b_isub hO dX2_bringBack_31 ?_
    refine b_putI hO flX2_22 kLX_16 rfl rfl rfl (id := 2050) rfl dX2_bringBack_32 ?_
    refine b_bnd (fun M32 => ?_)
    refine b_aload_n hO dX2_bringBack_35 1 rfl rfl ?_
    refine b_aload_n hO dX2_bringBack_36 0 rfl rfl ?_
    refine b_get hO flX2_13 kLX_16 (v := .ref (ad 17)) rfl dX2_bringBack_37 ?_
    refine b_aload_n hO dX2_bringBack_40 0 rfl rfl ?_
    refine b_get hO flX2_18 kLX_16 (v := .int (gI _ 2049)) rfl dX2_bringBack_41 ?_
    refine b_aald hO kLX_17 (n := 20) rfl (b := 63) rfl dX2_bringBack_44 kg_17 (fun hg1 => ?_)
    refine b_callVV hO mdX6_bringBack mvX6_bringBack w1182 (ci := 6) rfl rfl (by decide) kLX_10 (As := [.ref _]) (st := []) (ctX6_bringBack n0 _ hg1 hO.2.2.2.2.2.2.1 _) (Nat.le_of_ble_eq_true rfl) rfl rfl (Nat.le_of_ble_eq_true rfl) dX2_bringBack_45 (fun z45 => ?_)
    refine b_iconst hO dX2_bringBack_48 ic_i_1 ?_
    exact b_zretc hO (Or.inr rfl) dX2_bringBack_49
  · refine b_iconst hO dX2_bringBack_7 ic_i_0 ?_
    exact b_zretc hO (Or.inl rfl) dX2_bringBack_8
theorem ctX2_bringBack (n0 : Nat) (hI : Inj LX ad) (M : Mem) : CT l LX D cy ad yX2_bringBack cX2_bringBack 2 (some .boolean) 2 (QI LX D cy ad) [.ref (ad 16), .ref (ad 10)] M (fX2_bringBack n0 M) :=
  CT.mk LXok hI (by decide) (Nat.le_of_ble_eq_true rfl) (fun hO => tfX2_bringBack n0 hO M)
end
end
section
section
variable {p : Program} {l : Launch} {e : Env} {s : State} {m : MethodId} {args : Array Value} {below : List Frame} {meth : Method} {c : Code} {D : va_G} {cy : Nat → ClassId} {ad : Nat → Nat} {dd : Nat}

/-! X11_refuse -/
def fX11_refuse (n0 : Nat) (x1 : Int32) (M : Mem) : Option (Int32 × Mem) :=
  if x1 < 0 then
    some ((-1 : Int32), M)
  else
    if (6 : Int32) ≤ x1 then
      some ((-1 : Int32), M)
    else
      if oob x1 6 then none else
      if oob x1 6 then none else
      some ((-1 : Int32), (sA M 30 (Int32.toNatClampNeg x1) ((gA M 30 (Int32.toNatClampNeg x1)) + (1 : Int32))))
theorem tfX11_refuse (n0 : Nat) (hO : OKc p (rmL 1) s m args meth c LX D cy ad cX11_refuse RX11 2 1 (some .int)) (x1 : Int32) (M : Mem) : BL p l e (rmL 1) s m args below meth c LX D cy ad 2 (QI LX D cy ad) 0 [(0, .ref (ad 0)), (1, .int x1)] [] M (fX11_refuse n0 x1 M) := by
  unfold fX11_refuse
  refine b_iload_n hO dX11_refuse_0 1 rfl rfl ?_
  refine b_if_lt hO dX11_refuse_1 (tgt := 20) (by decide) ?_ ?_
  · refine b_iconst hO dX11_refuse_20 ic_i_m1 ?_
    exact b_iret hO dX11_refuse_21
  · refine b_iload_n hO dX11_refuse_4 1 rfl rfl ?_
    refine b_bipush hO dX11_refuse_5 ic_b_6 ?_
    refine b_icmp_ge hO dX11_refuse_7 (tgt := 20) (by decide) ?_ ?_
    · refine b_iconst hO dX11_refuse_20 ic_i_m1 ?_
      exact b_iret hO dX11_refuse_21
    · refine b_aload_n hO dX11_refuse_10 0 rfl rfl ?_
      refine b_get hO flX11_85 kLX_0 (v := .ref (ad 30)) rfl dX11_refuse_11 ?_
      refine b_iload_n hO dX11_refuse_14 1 rfl rfl ?_
      refine b_dup2 hO dX11_refuse_15 rfl rfl ?_
      refine b_iald hO kLX_30 (n := 6) rfl dX11_refuse_16 ?_
      refine b_iconst hO dX11_refuse_17 ic_i_1 ?_
      refine b_iadd hO dX11_refuse_18 ?_
      refine b_iast hO kLX_30 (n := 6) rfl dX11_refuse_19 ?_
      refine b_iconst hO dX11_refuse_20 ic_i_m1 ?_
      exact b_iret hO dX11_refuse_21
theorem ctX11_refuse (n0 : Nat) (hI : Inj LX ad) (x1 : Int32) (M : Mem) : CT l LX D cy ad yX11_refuse cX11_refuse 2 (some .int) 1 (QI LX D cy ad) [.ref (ad 0), .int x1] M (fX11_refuse n0 x1 M) :=
  CT.mk LXok hI (by decide) (Nat.le_of_ble_eq_true rfl) (fun hO => tfX11_refuse n0 hO x1 M)
/-! X11_feed -/
def fX11_feed (n0 : Nat) (x1 : Int32) (x2 : Int32) (x3 : Int32) (x4 : Int32) (x5 : Int32) (M : Mem) : Option (Int32 × Mem) :=
  (fX7_hasRoomFor n0 (20 : Int32) M).bind fun z6 =>
  if z6.1 = 0 then
    (fX11_refuse n0 (0 : Int32) z6.2).bind fun z14 =>
    some (z14.1, z14.2)
  else
    (fX7_addNumber n0 x1 z6.2).bind fun z23 =>
    (fX7_addNumber n0 x2 z23).bind fun z31 =>
    (fX7_addNumber n0 x3 z31).bind fun z39 =>
    (fX7_addNumber n0 x4 z39).bind fun z48 =>
    (fX7_addNumber n0 x5 z48).bind fun z57 =>
    some ((gI z57 641), z57)
theorem tfX11_feed (n0 : Nat) (hO : OKc p (rmL 2) s m args meth c LX D cy ad cX11_feed RX11 6 2 (some .int)) (x1 : Int32) (x2 : Int32) (x3 : Int32) (x4 : Int32) (x5 : Int32) (M : Mem) : BL p l e (rmL 2) s m args below meth c LX D cy ad 6 (QI LX D cy ad) 0 [(0, .ref (ad 0)), (1, .int x1), (2, .int x2), (3, .int x3), (4, .int x4), (5, .int x5)] [] M (fX11_feed n0 x1 x2 x3 x4 x5 M) := by
  unfold fX11_feed
  refine b_aload_n hO dX11_feed_0 0 rfl rfl ?_
  refine b_get hO flX11_12 kLX_0 (v := .ref (ad 5)) rfl dX11_feed_1 ?_
  refine b_bipush hO dX11_feed_4 ic_b_20 ?_
  refine b_callVI hO mdX7_hasRoomFor mvX7_hasRoomFor w667 (ci := 7) rfl rfl (by decide) kLX_5 (As := [.int _]) (st := []) (ctX7_hasRoomFor n0 hO.2.2.2.2.2.2.1 _ _) (Nat.le_of_ble_eq_true rfl) rfl rfl (Nat.le_of_ble_eq_true rfl) dX11_feed_6 (fun z6 => ?_)
  refine b_if_ne hO dX11_feed_9 (tgt := 18) (by decide) ?_ ?_
  · refine b_aload_n hO dX11_feed_18 0 rfl rfl ?_
    refine b_get hO flX11_12 kLX_0 (v := .ref (ad 5)) rfl dX11_feed_19 ?_
    refine b_iload_n hO dX11_feed_22 1 rfl rfl ?_
    refine b_callVV hO mdX7_addNumber mvX7_addNumber w675 (ci := 7) rfl rfl (by decide) kLX_5 (As := [.int _]) (st := []) (ctX7_addNumber n0 hO.2.2.2.2.2.2.1 _ _) (Nat.le_of_ble_eq_true rfl) rfl rfl (Nat.le_of_ble_eq_true rfl) dX11_feed_23 (fun z23 => ?_)
    refine b_aload_n hO dX11_feed_26 0 rfl rfl ?_
    refine b_get hO flX11_12 kLX_0 (v := .ref (ad 5)) rfl dX11_feed_27 ?_
    refine b_iload_n hO dX11_feed_30 2 rfl rfl ?_
    refine b_callVV hO mdX7_addNumber mvX7_addNumber w675 (ci := 7) rfl rfl (by decide) kLX_5 (As := [.int _]) (st := []) (ctX7_addNumber n0 hO.2.2.2.2.2.2.1 _ _) (Nat.le_of_ble_eq_true rfl) rfl rfl (Nat.le_of_ble_eq_true rfl) dX11_feed_31 (fun z31 => ?_)
    refine b_aload_n hO dX11_feed_34 0 rfl rfl ?_
    refine b_get hO flX11_12 kLX_0 (v := .ref (ad 5)) rfl dX11_feed_35 ?_
    refine b_iload_n hO dX11_feed_38 3 rfl rfl ?_
    refine b_callVV hO mdX7_addNumber mvX7_addNumber w675 (ci := 7) rfl rfl (by decide) kLX_5 (As := [.int _]) (st := []) (ctX7_addNumber n0 hO.2.2.2.2.2.2.1 _ _) (Nat.le_of_ble_eq_true rfl) rfl rfl (Nat.le_of_ble_eq_true rfl) dX11_feed_39 (fun z39 => ?_)
    refine b_aload_n hO dX11_feed_42 0 rfl rfl ?_
    refine b_get hO flX11_12 kLX_0 (v := .ref (ad 5)) rfl dX11_feed_43 ?_
    refine b_iload hO dX11_feed_46 4 rfl ?_
    refine b_callVV hO mdX7_addNumber mvX7_addNumber w675 (ci := 7) rfl rfl (by decide) kLX_5 (As := [.int _]) (st := []) (ctX7_addNumber n0 hO.2.2.2.2.2.2.1 _ _) (Nat.le_of_ble_eq_true rfl) rfl rfl (Nat.le_of_ble_eq_true rfl) dX11_feed_48 (fun z48 => ?_)
    refine b_aload_n hO dX11_feed_51 0 rfl rfl ?_
    refine b_get hO flX11_12 kLX_0 (v := .ref (ad 5)) rfl dX11_feed_52 ?_
    refine b_iload hO dX11_feed_55 5 rfl ?_
    refine b_callVV hO mdX7_addNumber mvX7_addNumber w675 (ci := 7) rfl rfl (by decide) kLX_5 (As := [.int _]) (st := []) (ctX7_addNumber n0 hO.2.2.2.2.2.2.1 _ _) (Nat.le_of_ble_eq_true rfl) rfl rfl (Nat.le_of_ble_eq_true rfl) dX11_feed_57 (fun z57 => ?_)
    refine b_aload_n hO dX11_feed_60 0 rfl rfl ?_
    refine b_get hO flX11_12 kLX_0 (v := .ref (ad 5)) rfl dX11_feed_61 ?_
    refine b_get hO flX11_116 kLX_5 (v := .int (gI _ 641)) rfl dX11_feed_64 ?_
    exact b_iret hO dX11_feed_67
  · refine b_aload_n hO dX11_feed_12 0 rfl rfl ?_
    refine b_iconst hO dX11_feed_13 ic_i_0 ?_
    refine b_callVI hO mdX11_refuse mvX11_refuse w671 (ci := 11) rfl rfl (by decide) kLX_0 (As := [.int _]) (st := []) (ctX11_refuse n0 hO.2.2.2.2.2.2.1 _ _) (Nat.le_of_ble_eq_true rfl) rfl rfl (Nat.le_of_ble_eq_true rfl) dX11_feed_14 (fun z14 => ?_)
    exact b_iret hO dX11_feed_17
theorem ctX11_feed (n0 : Nat) (hI : Inj LX ad) (x1 : Int32) (x2 : Int32) (x3 : Int32) (x4 : Int32) (x5 : Int32) (M : Mem) : CT l LX D cy ad yX11_feed cX11_feed 6 (some .int) 2 (QI LX D cy ad) [.ref (ad 0), .int x1, .int x2, .int x3, .int x4, .int x5] M (fX11_feed n0 x1 x2 x3 x4 x5 M) :=
  CT.mk LXok hI (by decide) (Nat.le_of_ble_eq_true rfl) (fun hO => tfX11_feed n0 hO x1 x2 x3 x4 x5 M)
/-! X11_end -/
def fX11_end_15 (n0 : Nat) (M : Mem) : Option (Int32 × Mem) :=
  (fX11_refuse n0 (0 : Int32) M).bind fun z17 =>
  some ((0 : Int32), z17.2)
def fX11_end (n0 : Nat) (x1 : Int32) (M : Mem) : Option (Int32 × Mem) :=
  if x1 < 0 then
    fX11_end_15 n0 M
  else
    if x1 ≤ (gI M 641) then
      bnd (sI M 641 x1) fun M28 =>
      some ((1 : Int32), M28)
    else
      fX11_end_15 n0 M
theorem tfX11_end_15 (n0 : Nat) (hO : OKc p (rmL 2) s m args meth c LX D cy ad cX11_end RX11 2 2 (some .boolean)) (M : Mem) : BL p l e (rmL 2) s m args below meth c LX D cy ad 2 (QI LX D cy ad) 15 [(0, .ref (ad 0))] [] M (fX11_end_15 n0 M) := by
  unfold fX11_end_15
  refine b_aload_n hO dX11_end_15 0 rfl rfl ?_
  refine b_iconst hO dX11_end_16 ic_i_0 ?_
  refine b_callVI hO mdX11_refuse mvX11_refuse w671 (ci := 11) rfl rfl (by decide) kLX_0 (As := [.int _]) (st := []) (ctX11_refuse n0 hO.2.2.2.2.2.2.1 _ _) (Nat.le_of_ble_eq_true rfl) rfl rfl (Nat.le_of_ble_eq_true rfl) dX11_end_17 (fun z17 => ?_)
  refine b_pop hO dX11_end_20 rfl ?_
  refine b_iconst hO dX11_end_21 ic_i_0 ?_
  exact b_zretc hO (Or.inl rfl) dX11_end_22
theorem tfX11_end (n0 : Nat) (hO : OKc p (rmL 2) s m args meth c LX D cy ad cX11_end RX11 2 2 (some .boolean)) (x1 : Int32) (M : Mem) : BL p l e (rmL 2) s m args below meth c LX D cy ad 2 (QI LX D cy ad) 0 [(0, .ref (ad 0)), (1, .int x1)] [] M (fX11_end n0 x1 M) := by
  unfold fX11_end
  refine b_iload_n hO dX11_end_0 1 rfl rfl ?_
  refine b_if_lt hO dX11_end_1 (tgt := 15) (by decide) ?_ ?_
  · refine b_sub [0] rfl ?_
    exact tfX11_end_15 n0 hO _
  · refine b_iload_n hO dX11_end_4 1 rfl rfl ?_
    refine b_aload_n hO dX11_end_5 0 rfl rfl ?_
    refine b_get hO flX11_12 kLX_0 (v := .ref (ad 5)) rfl dX11_end_6 ?_
    refine b_get hO flX11_116 kLX_5 (v := .int (gI _ 641)) rfl dX11_end_9 ?_
    refine b_icmp_le hO dX11_end_12 (tgt := 23) (by decide) ?_ ?_
    · refine b_aload_n hO dX11_end_23 0 rfl rfl ?_
      refine b_get hO flX11_12 kLX_0 (v := .ref (ad 5)) rfl dX11_end_24 ?_
      refine b_iload_n hO dX11_end_27 1 rfl rfl ?_
      refine b_putI hO flX11_116 kLX_5 rfl rfl rfl (id := 641) rfl dX11_end_28 ?_
      refine b_bnd (fun M28 => ?_)
      refine b_iconst hO dX11_end_31 ic_i_1 ?_
      exact b_zretc hO (Or.inr rfl) dX11_end_32
    · refine b_sub [0] rfl ?_
      exact tfX11_end_15 n0 hO _
theorem ctX11_end (n0 : Nat) (hI : Inj LX ad) (x1 : Int32) (M : Mem) : CT l LX D cy ad yX11_end cX11_end 2 (some .boolean) 2 (QI LX D cy ad) [.ref (ad 0), .int x1] M (fX11_end n0 x1 M) :=
  CT.mk LXok hI (by decide) (Nat.le_of_ble_eq_true rfl) (fun hO => tfX11_end n0 hO x1 M)
/-! X11_begin -/
def fX11_begin (n0 : Nat) (M : Mem) : Option (Mem) :=
  bnd (sR M 896 (gR M 1)) fun M8 =>
  (fX6_begin n0 (gR M8 1) M8).bind fun z19 =>
  (fX6_doWhatIsDue n0 z19).bind fun z30 =>
  bnd (sI z30.2 2050 (0 : Int32)) fun M39 =>
  some (sI M39 2688 (0 : Int32))
theorem tfX11_begin (n0 : Nat) (hO : OKc p (rmL 7) s m args meth c LX D cy ad cX11_begin RX11 1 7 none) (M : Mem) : BL p l e (rmL 7) s m args below meth c LX D cy ad 1 (QV LX D cy ad) 0 [(0, .ref (ad 0))] [] M (fX11_begin n0 M) := by
  unfold fX11_begin
  refine b_aload_n hO dX11_begin_0 0 rfl rfl ?_
  refine b_get hO flX11_40 kLX_0 (v := .ref (ad 7)) rfl dX11_begin_1 ?_
  refine b_aload_n hO dX11_begin_4 0 rfl rfl ?_
  refine b_getR hO flX11_19 kLX_0 (id := 1) rfl rfl (rk := 9) rfl (by decide) dX11_begin_5 (fun hg1 => ?_)
  refine b_putR hO flX11_312 kLX_7 rfl (id := 896) rfl hg1 rfl rfl dX11_begin_8 ?_
  refine b_bnd (fun M8 => ?_)
  refine b_aload_n hO dX11_begin_11 0 rfl rfl ?_
  refine b_get hO flX11_47 kLX_0 (v := .ref (ad 10)) rfl dX11_begin_12 ?_
  refine b_aload_n hO dX11_begin_15 0 rfl rfl ?_
  refine b_getR hO flX11_19 kLX_0 (id := 1) rfl rfl (rk := 9) rfl (by decide) dX11_begin_16 (fun hg2 => ?_)
  refine b_callVV hO mdX6_begin mvX6_begin w544 (ci := 6) rfl rfl (by decide) kLX_10 (As := [.ref _]) (st := []) (ctX6_begin n0 _ hg2 hO.2.2.2.2.2.2.1 _) (Nat.le_of_ble_eq_true rfl) rfl rfl (Nat.le_of_ble_eq_true rfl) dX11_begin_19 (fun z19 => ?_)
  refine b_aload_n hO dX11_begin_22 0 rfl rfl ?_
  refine b_get hO flX11_47 kLX_0 (v := .ref (ad 10)) rfl dX11_begin_23 ?_
  refine b_aload_n hO dX11_begin_26 0 rfl rfl ?_
  refine b_get hO flX11_40 kLX_0 (v := .ref (ad 7)) rfl dX11_begin_27 ?_
  refine b_callVI hO mdX6_doWhatIsDue mvX6_doWhatIsDue w552 (ci := 6) rfl rfl (by decide) kLX_10 (As := [.ref _]) (st := []) (ctX6_doWhatIsDue n0 hO.2.2.2.2.2.2.1 _) (Nat.le_of_ble_eq_true rfl) rfl rfl (Nat.le_of_ble_eq_true rfl) dX11_begin_30 (fun z30 => ?_)
  refine b_pop hO dX11_begin_33 rfl ?_
  refine b_aload_n hO dX11_begin_34 0 rfl rfl ?_
  refine b_get hO flX11_54 kLX_0 (v := .ref (ad 16)) rfl dX11_begin_35 ?_
  refine b_iconst hO dX11_begin_38 ic_i_0 ?_
  refine b_putI hO flX11_164 kLX_16 rfl rfl rfl (id := 2050) rfl dX11_begin_39 ?_
  refine b_bnd (fun M39 => ?_)
  refine b_aload_n hO dX11_begin_42 0 rfl rfl ?_
  refine b_get hO flX11_68 kLX_0 (v := .ref (ad 21)) rfl dX11_begin_43 ?_
  refine b_iconst hO dX11_begin_46 ic_i_0 ?_
  refine b_putI hO flX11_161 kLX_21 rfl rfl rfl (id := 2688) rfl dX11_begin_47 ?_
  exact b_vret hO dX11_begin_50
theorem ctX11_begin (n0 : Nat) (hI : Inj LX ad) (M : Mem) : CT l LX D cy ad yX11_begin cX11_begin 1 none 7 (QV LX D cy ad) [.ref (ad 0)] M (fX11_begin n0 M) :=
  CT.mk LXok hI (by decide) (Nat.le_of_ble_eq_true rfl) (fun hO => tfX11_begin n0 hO M)
/-! X11_town -/
def fX11_town (n0 : Nat) (M : Mem) : Option (Int32 × Mem) :=
  (fX4_read n0 (gR M 2) M).bind fun z8 =>
  bnd (sI z8.2 641 (0 : Int32)) fun M17 =>
  bnd (sI M17 15 (gI M17 391)) fun M31 =>
  bnd (sI M31 16 (gI M31 392)) fun M45 =>
  if z8.1 = 0 then
    (fX11_refuse n0 (1 : Int32) M45).bind fun z54 =>
    some (z54.1, z54.2)
  else
    bnd (sR M45 1 (gR M45 2)) fun M68 =>
    bnd (sR M68 2 (gR M45 1)) fun M73 =>
    (fX11_begin n0 M73).bind fun z77 =>
    some ((gI z77 (128 * (gR z77 1) + 0)), z77)
theorem tfX11_town (n0 : Nat) (hO : OKc p (rmL 109) s m args meth c LX D cy ad cX11_town RX11 3 109 (some .int)) (M : Mem) : BL p l e (rmL 109) s m args below meth c LX D cy ad 3 (QI LX D cy ad) 0 [(0, .ref (ad 0))] [] M (fX11_town n0 M) := by
  unfold fX11_town
  refine b_aload_n hO dX11_town_0 0 rfl rfl ?_
  refine b_get hO flX11_31 kLX_0 (v := .ref (ad 1)) rfl dX11_town_1 ?_
  refine b_aload_n hO dX11_town_4 0 rfl rfl ?_
  refine b_getR hO flX11_23 kLX_0 (id := 2) rfl rfl (rk := 9) rfl (by decide) dX11_town_5 (fun hg1 => ?_)
  refine b_callVI hO mdX4_read mvX4_read w687 (ci := 4) rfl rfl (by decide) kLX_1 (As := [.ref _]) (st := []) (ctX4_read n0 _ hg1 hO.2.2.2.2.2.2.1 _) (Nat.le_of_ble_eq_true rfl) rfl rfl (Nat.le_of_ble_eq_true rfl) dX11_town_8 (fun z8 => ?_)
  refine b_istore_n hO dX11_town_11 rfl (by decide) (lv' := [(1, .int _), (0, .ref _)]) rfl ?_
  refine b_aload_n hO dX11_town_12 1 rfl rfl ?_
  refine b_get hO flX11_12 kLX_0 (v := .ref (ad 5)) rfl dX11_town_13 ?_
  refine b_iconst hO dX11_town_16 ic_i_0 ?_
  refine b_putI hO flX11_116 kLX_5 rfl rfl rfl (id := 641) rfl dX11_town_17 ?_
  refine b_bnd (fun M17 => ?_)
  refine b_aload_n hO dX11_town_20 1 rfl rfl ?_
  refine b_aload_n hO dX11_town_21 1 rfl rfl ?_
  refine b_get hO flX11_31 kLX_0 (v := .ref (ad 1)) rfl dX11_town_22 ?_
  refine b_get hO flX11_123 kLX_1 (v := .ref (ad 3)) rfl dX11_town_25 ?_
  refine b_get hO flX11_127 kLX_3 (v := .int (gI _ 391)) rfl dX11_town_28 ?_
  refine b_putI hO flX11_92 kLX_0 rfl rfl rfl (id := 15) rfl dX11_town_31 ?_
  refine b_bnd (fun M31 => ?_)
  refine b_aload_n hO dX11_town_34 1 rfl rfl ?_
  refine b_aload_n hO dX11_town_35 1 rfl rfl ?_
  refine b_get hO flX11_31 kLX_0 (v := .ref (ad 1)) rfl dX11_town_36 ?_
  refine b_get hO flX11_123 kLX_1 (v := .ref (ad 3)) rfl dX11_town_39 ?_
  refine b_get hO flX11_132 kLX_3 (v := .int (gI _ 392)) rfl dX11_town_42 ?_
  refine b_putI hO flX11_95 kLX_0 rfl rfl rfl (id := 16) rfl dX11_town_45 ?_
  refine b_bnd (fun M45 => ?_)
  refine b_iload_n hO dX11_town_48 0 rfl rfl ?_
  refine b_if_ne hO dX11_town_49 (tgt := 58) (by decide) ?_ ?_
  · refine b_aload_n hO dX11_town_58 1 rfl rfl ?_
    refine b_getR hO flX11_19 kLX_0 (id := 1) rfl rfl (rk := 9) rfl (by decide) dX11_town_59 (fun hg2 => ?_)
    refine b_astore_n hO dX11_town_62 rfl (by decide) (lv' := [(2, .ref _), (1, .int _), (0, .ref _)]) rfl ?_
    refine b_aload_n hO dX11_town_63 2 rfl rfl ?_
    refine b_aload_n hO dX11_town_64 2 rfl rfl ?_
    refine b_getR hO flX11_23 kLX_0 (id := 2) rfl rfl (rk := 9) rfl (by decide) dX11_town_65 (fun hg3 => ?_)
    refine b_putR hO flX11_19 kLX_0 rfl (id := 1) rfl hg3 rfl rfl dX11_town_68 ?_
    refine b_bnd (fun M68 => ?_)
    refine b_aload_n hO dX11_town_71 2 rfl rfl ?_
    refine b_aload_n hO dX11_town_72 0 rfl rfl ?_
    refine b_putR hO flX11_23 kLX_0 rfl (id := 2) rfl hg2 rfl rfl dX11_town_73 ?_
    refine b_bnd (fun M73 => ?_)
    refine b_aload_n hO dX11_town_76 2 rfl rfl ?_
    refine b_callVV hO mdX11_begin mvX11_begin w540 (ci := 11) rfl rfl (by decide) kLX_0 (As := []) (st := []) (ctX11_begin n0 hO.2.2.2.2.2.2.1 _) (Nat.le_of_ble_eq_true rfl) rfl rfl (Nat.le_of_ble_eq_true rfl) dX11_town_77 (fun z77 => ?_)
    refine b_aload_n hO dX11_town_80 2 rfl rfl ?_
    refine b_getR hO flX11_19 kLX_0 (id := 1) rfl rfl (rk := 9) rfl (by decide) dX11_town_81 (fun hg4 => ?_)
    refine b_get hO flX11_133 hg4 (v := .int (gI _ (128 * (gR z77 1) + 0))) rfl dX11_town_84 ?_
    exact b_iret hO dX11_town_87
  · refine b_aload_n hO dX11_town_52 1 rfl rfl ?_
    refine b_iconst hO dX11_town_53 ic_i_1 ?_
    refine b_callVI hO mdX11_refuse mvX11_refuse w671 (ci := 11) rfl rfl (by decide) kLX_0 (As := [.int _]) (st := []) (ctX11_refuse n0 hO.2.2.2.2.2.2.1 _ _) (Nat.le_of_ble_eq_true rfl) rfl rfl (Nat.le_of_ble_eq_true rfl) dX11_town_54 (fun z54 => ?_)
    exact b_iret hO dX11_town_57
theorem ctX11_town (n0 : Nat) (hI : Inj LX ad) (M : Mem) : CT l LX D cy ad yX11_town cX11_town 3 (some .int) 109 (QI LX D cy ad) [.ref (ad 0)] M (fX11_town n0 M) :=
  CT.mk LXok hI (by decide) (Nat.le_of_ble_eq_true rfl) (fun hO => tfX11_town n0 hO M)
/-! X11_fault -/
def fX11_fault (n0 : Nat) (x1 : Int32) (M : Mem) : Option (Int32 × Mem) :=
  if x1 = 0 then
    some ((gI M 15), M)
  else
  if x1 = 1 then
    some ((gI M 16), M)
  else
  some ((-1 : Int32), M)
theorem tfX11_fault (n0 : Nat) (hO : OKc p (rmL 1) s m args meth c LX D cy ad cX11_fault RX11 2 1 (some .int)) (x1 : Int32) (M : Mem) : BL p l e (rmL 1) s m args below meth c LX D cy ad 2 (QI LX D cy ad) 0 [(0, .ref (ad 0)), (1, .int x1)] [] M (fX11_fault n0 x1 M) := by
  unfold fX11_fault
  refine b_iload_n hO dX11_fault_0 1 rfl rfl ?_
  refine b_lookIn hO dX11_fault_1 (v := 0) (z := 0) (tgt := 28) (by decide) (by decide) rfl (by decide) ?_ (fun hn0 => ?_)
  · refine b_aload_n hO dX11_fault_28 0 rfl rfl ?_
    refine b_get hO flX11_92 kLX_0 (v := .int (gI _ 15)) rfl dX11_fault_29 ?_
    exact b_iret hO dX11_fault_32
  refine b_lookIn hO dX11_fault_1 (v := 1) (z := 1) (tgt := 33) (by decide) (by decide) rfl (by decide) ?_ (fun hn1 => ?_)
  · refine b_aload_n hO dX11_fault_33 0 rfl rfl ?_
    refine b_get hO flX11_95 kLX_0 (v := .int (gI _ 16)) rfl dX11_fault_34 ?_
    exact b_iret hO dX11_fault_37
  refine b_lookOut hO dX11_fault_1 (tgt := 38) (by decide) (by rw [lv_osw hn0 (by decide)]; rw [lv_osw hn1 (by decide)]; rfl) (by decide) ?_
  refine b_iconst hO dX11_fault_38 ic_i_m1 ?_
  exact b_iret hO dX11_fault_39
theorem ctX11_fault (n0 : Nat) (hI : Inj LX ad) (x1 : Int32) (M : Mem) : CT l LX D cy ad yX11_fault cX11_fault 2 (some .int) 1 (QI LX D cy ad) [.ref (ad 0), .int x1] M (fX11_fault n0 x1 M) :=
  CT.mk LXok hI (by decide) (Nat.le_of_ble_eq_true rfl) (fun hO => tfX11_fault n0 hO x1 M)
/-! X11_has -/
def fX11_has (n0 : Nat) (x1 : Int32) (M : Mem) : Option (Int32 × Mem) :=
  if x1 = 0 then
    some ((gI M (128 * (gR M 1) + 1)), M)
  else
  if x1 = 1 then
    some ((gI M (128 * (gR M 1) + 5)), M)
  else
  if x1 = 2 then
    some ((gI M (128 * (gR M 1) + 8)), M)
  else
  if x1 = 3 then
    some ((gI M (128 * (gR M 1) + 12)), M)
  else
  if x1 = 4 then
    some ((gI M 1281), M)
  else
  if x1 = 5 then
    (fX6_countDone n0 M).bind fun z104 =>
    some (z104.1, z104.2)
  else
  if x1 = 6 then
    (fX6_countEmpty n0 M).bind fun z112 =>
    some (z112.1, z112.2)
  else
  if x1 = 7 then
    some ((gI M 1285), M)
  else
  if x1 = 8 then
    some ((gI M 2688), M)
  else
  if x1 = 9 then
    some ((gI M 2050), M)
  else
  if x1 = 10 then
    some ((gI M 17), M)
  else
  some ((-1 : Int32), M)
theorem tfX11_has (n0 : Nat) (hO : OKc p (rmL 2) s m args meth c LX D cy ad cX11_has RX11 2 2 (some .int)) (x1 : Int32) (M : Mem) : BL p l e (rmL 2) s m args below meth c LX D cy ad 2 (QI LX D cy ad) 0 [(0, .ref (ad 0)), (1, .int x1)] [] M (fX11_has n0 x1 M) := by
  unfold fX11_has
  refine b_iload_n hO dX11_has_0 1 rfl rfl ?_
  refine b_tabIn hO dX11_has_1 (v := 0) (z := 0) (tgt := 60) (by decide) (by decide) (by decide) rfl (by decide) ?_ (fun hn0 => ?_)
  · refine b_aload_n hO dX11_has_60 0 rfl rfl ?_
    refine b_getR hO flX11_19 kLX_0 (id := 1) rfl rfl (rk := 9) rfl (by decide) dX11_has_61 (fun hg1 => ?_)
    refine b_get hO flX11_136 hg1 (v := .int (gI _ (128 * (gR M 1) + 1))) rfl dX11_has_64 ?_
    exact b_iret hO dX11_has_67
  refine b_tabIn hO dX11_has_1 (v := 1) (z := 1) (tgt := 68) (by decide) (by decide) (by decide) rfl (by decide) ?_ (fun hn1 => ?_)
  · refine b_aload_n hO dX11_has_68 0 rfl rfl ?_
    refine b_getR hO flX11_19 kLX_0 (id := 1) rfl rfl (rk := 9) rfl (by decide) dX11_has_69 (fun hg2 => ?_)
    refine b_get hO flX11_139 hg2 (v := .int (gI _ (128 * (gR M 1) + 5))) rfl dX11_has_72 ?_
    exact b_iret hO dX11_has_75
  refine b_tabIn hO dX11_has_1 (v := 2) (z := 2) (tgt := 76) (by decide) (by decide) (by decide) rfl (by decide) ?_ (fun hn2 => ?_)
  · refine b_aload_n hO dX11_has_76 0 rfl rfl ?_
    refine b_getR hO flX11_19 kLX_0 (id := 1) rfl rfl (rk := 9) rfl (by decide) dX11_has_77 (fun hg3 => ?_)
    refine b_get hO flX11_142 hg3 (v := .int (gI _ (128 * (gR M 1) + 8))) rfl dX11_has_80 ?_
    exact b_iret hO dX11_has_83
  refine b_tabIn hO dX11_has_1 (v := 3) (z := 3) (tgt := 84) (by decide) (by decide) (by decide) rfl (by decide) ?_ (fun hn3 => ?_)
  · refine b_aload_n hO dX11_has_84 0 rfl rfl ?_
    refine b_getR hO flX11_19 kLX_0 (id := 1) rfl rfl (rk := 9) rfl (by decide) dX11_has_85 (fun hg4 => ?_)
    refine b_get hO flX11_145 hg4 (v := .int (gI _ (128 * (gR M 1) + 12))) rfl dX11_has_88 ?_
    exact b_iret hO dX11_has_91
  refine b_tabIn hO dX11_has_1 (v := 4) (z := 4) (tgt := 92) (by decide) (by decide) (by decide) rfl (by decide) ?_ (fun hn4 => ?_)
  · refine b_aload_n hO dX11_has_92 0 rfl rfl ?_
    refine b_get hO flX11_47 kLX_0 (v := .ref (ad 10)) rfl dX11_has_93 ?_
    refine b_get hO flX11_148 kLX_10 (v := .int (gI _ 1281)) rfl dX11_has_96 ?_
    exact b_iret hO dX11_has_99
  refine b_tabIn hO dX11_has_1 (v := 5) (z := 5) (tgt := 100) (by decide) (by decide) (by decide) rfl (by decide) ?_ (fun hn5 => ?_)
  · refine b_aload_n hO dX11_has_100 0 rfl rfl ?_
    refine b_get hO flX11_47 kLX_0 (v := .ref (ad 10)) rfl dX11_has_101 ?_
    refine b_callVI hO mdX6_countDone mvX6_countDone w912 (ci := 6) rfl rfl (by decide) kLX_10 (As := []) (st := []) (ctX6_countDone n0 hO.2.2.2.2.2.2.1 _) (Nat.le_of_ble_eq_true rfl) rfl rfl (Nat.le_of_ble_eq_true rfl) dX11_has_104 (fun z104 => ?_)
    exact b_iret hO dX11_has_107
  refine b_tabIn hO dX11_has_1 (v := 6) (z := 6) (tgt := 108) (by decide) (by decide) (by decide) rfl (by decide) ?_ (fun hn6 => ?_)
  · refine b_aload_n hO dX11_has_108 0 rfl rfl ?_
    refine b_get hO flX11_47 kLX_0 (v := .ref (ad 10)) rfl dX11_has_109 ?_
    refine b_callVI hO mdX6_countEmpty mvX6_countEmpty w916 (ci := 6) rfl rfl (by decide) kLX_10 (As := []) (st := []) (ctX6_countEmpty n0 hO.2.2.2.2.2.2.1 _) (Nat.le_of_ble_eq_true rfl) rfl rfl (Nat.le_of_ble_eq_true rfl) dX11_has_112 (fun z112 => ?_)
    exact b_iret hO dX11_has_115
  refine b_tabIn hO dX11_has_1 (v := 7) (z := 7) (tgt := 116) (by decide) (by decide) (by decide) rfl (by decide) ?_ (fun hn7 => ?_)
  · refine b_aload_n hO dX11_has_116 0 rfl rfl ?_
    refine b_get hO flX11_47 kLX_0 (v := .ref (ad 10)) rfl dX11_has_117 ?_
    refine b_get hO flX11_158 kLX_10 (v := .int (gI _ 1285)) rfl dX11_has_120 ?_
    exact b_iret hO dX11_has_123
  refine b_tabIn hO dX11_has_1 (v := 8) (z := 8) (tgt := 124) (by decide) (by decide) (by decide) rfl (by decide) ?_ (fun hn8 => ?_)
  · refine b_aload_n hO dX11_has_124 0 rfl rfl ?_
    refine b_get hO flX11_68 kLX_0 (v := .ref (ad 21)) rfl dX11_has_125 ?_
    refine b_get hO flX11_161 kLX_21 (v := .int (gI _ 2688)) rfl dX11_has_128 ?_
    exact b_iret hO dX11_has_131
  refine b_tabIn hO dX11_has_1 (v := 9) (z := 9) (tgt := 132) (by decide) (by decide) (by decide) rfl (by decide) ?_ (fun hn9 => ?_)
  · refine b_aload_n hO dX11_has_132 0 rfl rfl ?_
    refine b_get hO flX11_54 kLX_0 (v := .ref (ad 16)) rfl dX11_has_133 ?_
    refine b_get hO flX11_164 kLX_16 (v := .int (gI _ 2050)) rfl dX11_has_136 ?_
    exact b_iret hO dX11_has_139
  refine b_tabIn hO dX11_has_1 (v := 10) (z := 10) (tgt := 140) (by decide) (by decide) (by decide) rfl (by decide) ?_ (fun hn10 => ?_)
  · refine b_aload_n hO dX11_has_140 0 rfl rfl ?_
    refine b_get hO flX11_98 kLX_0 (v := .int (gI _ 17)) rfl dX11_has_141 ?_
    exact b_iret hO dX11_has_144
  refine b_tabOut hO dX11_has_1 (tgt := 145) (by omega) (by decide) ?_
  refine b_iconst hO dX11_has_145 ic_i_m1 ?_
  exact b_iret hO dX11_has_146
theorem ctX11_has (n0 : Nat) (hI : Inj LX ad) (x1 : Int32) (M : Mem) : CT l LX D cy ad yX11_has cX11_has 2 (some .int) 2 (QI LX D cy ad) [.ref (ad 0), .int x1] M (fX11_has n0 x1 M) :=
  CT.mk LXok hI (by decide) (Nat.le_of_ble_eq_true rfl) (fun hO => tfX11_has n0 hO x1 M)
/-! X11_letter -/
def fX11_letter (n0 : Nat) (x1 : Int32) (x2 : Int32) (x3 : Int32) (M : Mem) : Option (Int32 × Mem) :=
  if x3 < 0 then
    some ((-1 : Int32), M)
  else
    if x3 < (6 : Int32) then
      if x1 = 0 then
        (fX9_isThing n0 (gR M 1) x2 M).bind fun z45 =>
        if z45.1 = 0 then
          some ((-1 : Int32), z45.2)
        else
          if oob x2 6 then none else
          (fX8_letterOf n0 (gA z45.2 ((gR z45.2 1) + 1) (Int32.toNatClampNeg x2)) x3 z45.2).bind fun z61 =>
          some (z61.1, z61.2)
      else
      if x1 = 1 then
        (fX9_isCorner n0 (gR M 1) x2 M).bind fun z74 =>
        if z74.1 = 0 then
          some ((-1 : Int32), z74.2)
        else
          if oob x2 5 then none else
          (fX8_letterOf n0 (gA z74.2 ((gR z74.2 1) + 4) (Int32.toNatClampNeg x2)) x3 z74.2).bind fun z90 =>
          some (z90.1, z90.2)
      else
      if x1 = 2 then
        (fX9_isDoing n0 (gR M 1) x2 M).bind fun z103 =>
        if z103.1 = 0 then
          some ((-1 : Int32), z103.2)
        else
          if oob x2 6 then none else
          (fX8_letterOf n0 (gA z103.2 ((gR z103.2 1) + 9) (Int32.toNatClampNeg x2)) x3 z103.2).bind fun z119 =>
          some (z119.1, z119.2)
      else
      some ((-1 : Int32), M)
    else
      some ((-1 : Int32), M)
theorem tfX11_letter (n0 : Nat) (hO : OKc p (rmL 2) s m args meth c LX D cy ad cX11_letter RX11 4 2 (some .int)) (x1 : Int32) (x2 : Int32) (x3 : Int32) (M : Mem) : BL p l e (rmL 2) s m args below meth c LX D cy ad 4 (QI LX D cy ad) 0 [(0, .ref (ad 0)), (1, .int x1), (2, .int x2), (3, .int x3)] [] M (fX11_letter n0 x1 x2 x3 M) := by
  unfold fX11_letter
  refine b_iload_n hO dX11_letter_0 3 rfl rfl ?_
  refine b_if_lt hO dX11_letter_1 (tgt := 10) (by decide) ?_ ?_
  · refine b_iconst hO dX11_letter_10 ic_i_m1 ?_
    exact b_iret hO dX11_letter_11
  · refine b_iload_n hO dX11_letter_4 3 rfl rfl ?_
    refine b_bipush hO dX11_letter_5 ic_b_6 ?_
    refine b_icmp_lt hO dX11_letter_7 (tgt := 12) (by decide) ?_ ?_
    · refine b_iload_n hO dX11_letter_12 1 rfl rfl ?_
      refine b_tabIn hO dX11_letter_13 (v := 0) (z := 0) (tgt := 40) (by decide) (by decide) (by decide) rfl (by decide) ?_ (fun hn0 => ?_)
      · refine b_aload_n hO dX11_letter_40 0 rfl rfl ?_
        refine b_getR hO flX11_19 kLX_0 (id := 1) rfl rfl (rk := 9) rfl (by decide) dX11_letter_41 (fun hg1 => ?_)
        refine b_iload_n hO dX11_letter_44 2 rfl rfl ?_
        refine b_callVI hO mdX9_isThing mvX9_isThing w924 (ci := 9) rfl rfl (by decide) hg1 (As := [.int _]) (st := []) (ctX9_isThing n0 _ hg1 hO.2.2.2.2.2.2.1 _ _) (Nat.le_of_ble_eq_true rfl) rfl rfl (Nat.le_of_ble_eq_true rfl) dX11_letter_45 (fun z45 => ?_)
        refine b_if_eq hO dX11_letter_48 (tgt := 67) (by decide) ?_ ?_
        · refine b_iconst hO dX11_letter_67 ic_i_m1 ?_
          exact b_iret hO dX11_letter_68
        · refine b_aload_n hO dX11_letter_51 0 rfl rfl ?_
          refine b_getR hO flX11_19 kLX_0 (id := 1) rfl rfl (rk := 9) rfl (by decide) dX11_letter_52 (fun hg2 => ?_)
          refine b_get hO flX11_168 hg2 (v := .ref (ad ((gR z45.2 1) + 1))) rfl dX11_letter_55 ?_
          refine b_iload_n hO dX11_letter_58 2 rfl rfl ?_
          refine b_iald hO (kt_9_1 hg2) (n := 6) (lt_9_1 hg2) dX11_letter_59 ?_
          refine b_iload_n hO dX11_letter_60 3 rfl rfl ?_
          refine b_callSI hO mdX8_letterOf w926 w925 (As := [.int _, .int _]) (st := []) (ctX8_letterOf n0 hO.2.2.2.2.2.2.1 _ _ _) (Nat.le_of_ble_eq_true rfl) rfl rfl (Nat.le_of_ble_eq_true rfl) dX11_letter_61 (fun z61 => ?_)
          refine b_goto hO dX11_letter_64 (tgt := 68) (by decide) ?_
          exact b_iret hO dX11_letter_68
      refine b_tabIn hO dX11_letter_13 (v := 1) (z := 1) (tgt := 69) (by decide) (by decide) (by decide) rfl (by decide) ?_ (fun hn1 => ?_)
      · refine b_aload_n hO dX11_letter_69 0 rfl rfl ?_
        refine b_getR hO flX11_19 kLX_0 (id := 1) rfl rfl (rk := 9) rfl (by decide) dX11_letter_70 (fun hg3 => ?_)
        refine b_iload_n hO dX11_letter_73 2 rfl rfl ?_
        refine b_callVI hO mdX9_isCorner mvX9_isCorner w928 (ci := 9) rfl rfl (by decide) hg3 (As := [.int _]) (st := []) (ctX9_isCorner n0 _ hg3 hO.2.2.2.2.2.2.1 _ _) (Nat.le_of_ble_eq_true rfl) rfl rfl (Nat.le_of_ble_eq_true rfl) dX11_letter_74 (fun z74 => ?_)
        refine b_if_eq hO dX11_letter_77 (tgt := 96) (by decide) ?_ ?_
        · refine b_iconst hO dX11_letter_96 ic_i_m1 ?_
          exact b_iret hO dX11_letter_97
        · refine b_aload_n hO dX11_letter_80 0 rfl rfl ?_
          refine b_getR hO flX11_19 kLX_0 (id := 1) rfl rfl (rk := 9) rfl (by decide) dX11_letter_81 (fun hg4 => ?_)
          refine b_get hO flX11_178 hg4 (v := .ref (ad ((gR z74.2 1) + 4))) rfl dX11_letter_84 ?_
          refine b_iload_n hO dX11_letter_87 2 rfl rfl ?_
          refine b_iald hO (kt_9_4 hg4) (n := 5) (lt_9_4 hg4) dX11_letter_88 ?_
          refine b_iload_n hO dX11_letter_89 3 rfl rfl ?_
          refine b_callSI hO mdX8_letterOf w926 w925 (As := [.int _, .int _]) (st := []) (ctX8_letterOf n0 hO.2.2.2.2.2.2.1 _ _ _) (Nat.le_of_ble_eq_true rfl) rfl rfl (Nat.le_of_ble_eq_true rfl) dX11_letter_90 (fun z90 => ?_)
          refine b_goto hO dX11_letter_93 (tgt := 97) (by decide) ?_
          exact b_iret hO dX11_letter_97
      refine b_tabIn hO dX11_letter_13 (v := 2) (z := 2) (tgt := 98) (by decide) (by decide) (by decide) rfl (by decide) ?_ (fun hn2 => ?_)
      · refine b_aload_n hO dX11_letter_98 0 rfl rfl ?_
        refine b_getR hO flX11_19 kLX_0 (id := 1) rfl rfl (rk := 9) rfl (by decide) dX11_letter_99 (fun hg5 => ?_)
        refine b_iload_n hO dX11_letter_102 2 rfl rfl ?_
        refine b_callVI hO mdX9_isDoing mvX9_isDoing w932 (ci := 9) rfl rfl (by decide) hg5 (As := [.int _]) (st := []) (ctX9_isDoing n0 _ hg5 hO.2.2.2.2.2.2.1 _ _) (Nat.le_of_ble_eq_true rfl) rfl rfl (Nat.le_of_ble_eq_true rfl) dX11_letter_103 (fun z103 => ?_)
        refine b_if_eq hO dX11_letter_106 (tgt := 125) (by decide) ?_ ?_
        · refine b_iconst hO dX11_letter_125 ic_i_m1 ?_
          exact b_iret hO dX11_letter_126
        · refine b_aload_n hO dX11_letter_109 0 rfl rfl ?_
          refine b_getR hO flX11_19 kLX_0 (id := 1) rfl rfl (rk := 9) rfl (by decide) dX11_letter_110 (fun hg6 => ?_)
          refine b_get hO flX11_184 hg6 (v := .ref (ad ((gR z103.2 1) + 9))) rfl dX11_letter_113 ?_
          refine b_iload_n hO dX11_letter_116 2 rfl rfl ?_
          refine b_iald hO (kt_9_9 hg6) (n := 6) (lt_9_9 hg6) dX11_letter_117 ?_
          refine b_iload_n hO dX11_letter_118 3 rfl rfl ?_
          refine b_callSI hO mdX8_letterOf w926 w925 (As := [.int _, .int _]) (st := []) (ctX8_letterOf n0 hO.2.2.2.2.2.2.1 _ _ _) (Nat.le_of_ble_eq_true rfl) rfl rfl (Nat.le_of_ble_eq_true rfl) dX11_letter_119 (fun z119 => ?_)
          refine b_goto hO dX11_letter_122 (tgt := 126) (by decide) ?_
          exact b_iret hO dX11_letter_126
      refine b_tabOut hO dX11_letter_13 (tgt := 127) (by omega) (by decide) ?_
      refine b_iconst hO dX11_letter_127 ic_i_m1 ?_
      exact b_iret hO dX11_letter_128
    · refine b_iconst hO dX11_letter_10 ic_i_m1 ?_
      exact b_iret hO dX11_letter_11
theorem ctX11_letter (n0 : Nat) (hI : Inj LX ad) (x1 : Int32) (x2 : Int32) (x3 : Int32) (M : Mem) : CT l LX D cy ad yX11_letter cX11_letter 4 (some .int) 2 (QI LX D cy ad) [.ref (ad 0), .int x1, .int x2, .int x3] M (fX11_letter n0 x1 x2 x3 M) :=
  CT.mk LXok hI (by decide) (Nat.le_of_ble_eq_true rfl) (fun hO => tfX11_letter n0 hO x1 x2 x3 M)
/-! X11_thing -/
def fX11_thing (n0 : Nat) (x1 : Int32) (x2 : Int32) (M : Mem) : Option (Int32 × Mem) :=
  (fX9_isThing n0 (gR M 1) x1 M).bind fun z5 =>
  if z5.1 = 0 then
    some ((-1 : Int32), z5.2)
  else
    if x2 = 0 then
      if oob x1 6 then none else
      some ((gA z5.2 ((gR z5.2 1) + 2) (Int32.toNatClampNeg x1)), z5.2)
    else
    if x2 = 1 then
      if oob x1 6 then none else
      some ((gA z5.2 ((gR z5.2 1) + 3) (Int32.toNatClampNeg x1)), z5.2)
    else
    some ((-1 : Int32), z5.2)
theorem tfX11_thing (n0 : Nat) (hO : OKc p (rmL 2) s m args meth c LX D cy ad cX11_thing RX11 3 2 (some .int)) (x1 : Int32) (x2 : Int32) (M : Mem) : BL p l e (rmL 2) s m args below meth c LX D cy ad 3 (QI LX D cy ad) 0 [(0, .ref (ad 0)), (1, .int x1), (2, .int x2)] [] M (fX11_thing n0 x1 x2 M) := by
  unfold fX11_thing
  refine b_aload_n hO dX11_thing_0 0 rfl rfl ?_
  refine b_getR hO flX11_19 kLX_0 (id := 1) rfl rfl (rk := 9) rfl (by decide) dX11_thing_1 (fun hg1 => ?_)
  refine b_iload_n hO dX11_thing_4 1 rfl rfl ?_
  refine b_callVI hO mdX9_isThing mvX9_isThing w924 (ci := 9) rfl rfl (by decide) hg1 (As := [.int _]) (st := []) (ctX9_isThing n0 _ hg1 hO.2.2.2.2.2.2.1 _ _) (Nat.le_of_ble_eq_true rfl) rfl rfl (Nat.le_of_ble_eq_true rfl) dX11_thing_5 (fun z5 => ?_)
  refine b_if_ne hO dX11_thing_8 (tgt := 13) (by decide) ?_ ?_
  · refine b_iload_n hO dX11_thing_13 2 rfl rfl ?_
    refine b_lookIn hO dX11_thing_14 (v := 0) (z := 0) (tgt := 40) (by decide) (by decide) rfl (by decide) ?_ (fun hn0 => ?_)
    · refine b_aload_n hO dX11_thing_40 0 rfl rfl ?_
      refine b_getR hO flX11_19 kLX_0 (id := 1) rfl rfl (rk := 9) rfl (by decide) dX11_thing_41 (fun hg2 => ?_)
      refine b_get hO flX11_187 hg2 (v := .ref (ad ((gR z5.2 1) + 2))) rfl dX11_thing_44 ?_
      refine b_iload_n hO dX11_thing_47 1 rfl rfl ?_
      refine b_iald hO (kt_9_2 hg2) (n := 6) (lt_9_2 hg2) dX11_thing_48 ?_
      exact b_iret hO dX11_thing_49
    refine b_lookIn hO dX11_thing_14 (v := 1) (z := 1) (tgt := 50) (by decide) (by decide) rfl (by decide) ?_ (fun hn1 => ?_)
    · refine b_aload_n hO dX11_thing_50 0 rfl rfl ?_
      refine b_getR hO flX11_19 kLX_0 (id := 1) rfl rfl (rk := 9) rfl (by decide) dX11_thing_51 (fun hg3 => ?_)
      refine b_get hO flX11_190 hg3 (v := .ref (ad ((gR z5.2 1) + 3))) rfl dX11_thing_54 ?_
      refine b_iload_n hO dX11_thing_57 1 rfl rfl ?_
      refine b_iald hO (kt_9_3 hg3) (n := 6) (lt_9_3 hg3) dX11_thing_58 ?_
      exact b_iret hO dX11_thing_59
    refine b_lookOut hO dX11_thing_14 (tgt := 60) (by decide) (by rw [lv_osw hn0 (by decide)]; rw [lv_osw hn1 (by decide)]; rfl) (by decide) ?_
    refine b_iconst hO dX11_thing_60 ic_i_m1 ?_
    exact b_iret hO dX11_thing_61
  · refine b_iconst hO dX11_thing_11 ic_i_m1 ?_
    exact b_iret hO dX11_thing_12
theorem ctX11_thing (n0 : Nat) (hI : Inj LX ad) (x1 : Int32) (x2 : Int32) (M : Mem) : CT l LX D cy ad yX11_thing cX11_thing 3 (some .int) 2 (QI LX D cy ad) [.ref (ad 0), .int x1, .int x2] M (fX11_thing n0 x1 x2 M) :=
  CT.mk LXok hI (by decide) (Nat.le_of_ble_eq_true rfl) (fun hO => tfX11_thing n0 hO x1 x2 M)
/-! X11_lookAt -/
def fX11_lookAt (n0 : Nat) (x1 : Int32) (M : Mem) : Option (Mem) :=
  if oob x1 5 then none else
  if oob x1 5 then none else
  (fX1_hold n0 x1 (gA M 11 (Int32.toNatClampNeg x1)) (gA M 12 (Int32.toNatClampNeg x1)) (gI M 1281) M).bind fun z30 =>
  some z30
theorem tfX11_lookAt (n0 : Nat) (hO : OKc p (rmL 2) s m args meth c LX D cy ad cX11_lookAt RX11 2 2 none) (x1 : Int32) (M : Mem) : BL p l e (rmL 2) s m args below meth c LX D cy ad 2 (QV LX D cy ad) 0 [(0, .ref (ad 0)), (1, .int x1)] [] M (fX11_lookAt n0 x1 M) := by
  unfold fX11_lookAt
  refine b_aload_n hO dX11_lookAt_0 0 rfl rfl ?_
  refine b_get hO flX11_40 kLX_0 (v := .ref (ad 7)) rfl dX11_lookAt_1 ?_
  refine b_iload_n hO dX11_lookAt_4 1 rfl rfl ?_
  refine b_aload_n hO dX11_lookAt_5 0 rfl rfl ?_
  refine b_get hO flX11_47 kLX_0 (v := .ref (ad 10)) rfl dX11_lookAt_6 ?_
  refine b_get hO flX11_193 kLX_10 (v := .ref (ad 11)) rfl dX11_lookAt_9 ?_
  refine b_iload_n hO dX11_lookAt_12 1 rfl rfl ?_
  refine b_iald hO kLX_11 (n := 5) rfl dX11_lookAt_13 ?_
  refine b_aload_n hO dX11_lookAt_14 0 rfl rfl ?_
  refine b_get hO flX11_47 kLX_0 (v := .ref (ad 10)) rfl dX11_lookAt_15 ?_
  refine b_get hO flX11_195 kLX_10 (v := .ref (ad 12)) rfl dX11_lookAt_18 ?_
  refine b_iload_n hO dX11_lookAt_21 1 rfl rfl ?_
  refine b_iald hO kLX_12 (n := 5) rfl dX11_lookAt_22 ?_
  refine b_aload_n hO dX11_lookAt_23 0 rfl rfl ?_
  refine b_get hO flX11_47 kLX_0 (v := .ref (ad 10)) rfl dX11_lookAt_24 ?_
  refine b_get hO flX11_148 kLX_10 (v := .int (gI _ 1281)) rfl dX11_lookAt_27 ?_
  refine b_callVV hO mdX1_hold mvX1_hold w952 (ci := 1) rfl rfl (by decide) kLX_7 (As := [.int _, .int _, .int _, .int _]) (st := []) (ctX1_hold n0 hO.2.2.2.2.2.2.1 _ _ _ _ _) (Nat.le_of_ble_eq_true rfl) rfl rfl (Nat.le_of_ble_eq_true rfl) dX11_lookAt_30 (fun z30 => ?_)
  exact b_vret hO dX11_lookAt_33
theorem ctX11_lookAt (n0 : Nat) (hI : Inj LX ad) (x1 : Int32) (M : Mem) : CT l LX D cy ad yX11_lookAt cX11_lookAt 2 none 2 (QV LX D cy ad) [.ref (ad 0), .int x1] M (fX11_lookAt n0 x1 M) :=
  CT.mk LXok hI (by decide) (Nat.le_of_ble_eq_true rfl) (fun hO => tfX11_lookAt n0 hO x1 M)
/-! X11_hourAt -/
def fX11_hourAt (n0 : Nat) (x1 : Int32) (M : Mem) : Option (Int32 × Mem) :=
  (fX11_lookAt n0 x1 M).bind fun z2 =>
  (fX1_hourNow n0 z2).bind fun z9 =>
  some (z9.1, z9.2)
theorem tfX11_hourAt (n0 : Nat) (hO : OKc p (rmL 5) s m args meth c LX D cy ad cX11_hourAt RX11 2 5 (some .int)) (x1 : Int32) (M : Mem) : BL p l e (rmL 5) s m args below meth c LX D cy ad 2 (QI LX D cy ad) 0 [(0, .ref (ad 0)), (1, .int x1)] [] M (fX11_hourAt n0 x1 M) := by
  unfold fX11_hourAt
  refine b_aload_n hO dX11_hourAt_0 0 rfl rfl ?_
  refine b_iload_n hO dX11_hourAt_1 1 rfl rfl ?_
  refine b_callVV hO mdX11_lookAt mvX11_lookAt w948 (ci := 11) rfl rfl (by decide) kLX_0 (As := [.int _]) (st := []) (ctX11_lookAt n0 hO.2.2.2.2.2.2.1 _ _) (Nat.le_of_ble_eq_true rfl) rfl rfl (Nat.le_of_ble_eq_true rfl) dX11_hourAt_2 (fun z2 => ?_)
  refine b_aload_n hO dX11_hourAt_5 0 rfl rfl ?_
  refine b_get hO flX11_40 kLX_0 (v := .ref (ad 7)) rfl dX11_hourAt_6 ?_
  refine b_callVI hO mdX1_hourNow mvX1_hourNow w953 (ci := 1) rfl rfl (by decide) kLX_7 (As := []) (st := []) (ctX1_hourNow n0 hO.2.2.2.2.2.2.1 _) (Nat.le_of_ble_eq_true rfl) rfl rfl (Nat.le_of_ble_eq_true rfl) dX11_hourAt_9 (fun z9 => ?_)
  exact b_iret hO dX11_hourAt_12
theorem ctX11_hourAt (n0 : Nat) (hI : Inj LX ad) (x1 : Int32) (M : Mem) : CT l LX D cy ad yX11_hourAt cX11_hourAt 2 (some .int) 5 (QI LX D cy ad) [.ref (ad 0), .int x1] M (fX11_hourAt n0 x1 M) :=
  CT.mk LXok hI (by decide) (Nat.le_of_ble_eq_true rfl) (fun hO => tfX11_hourAt n0 hO x1 M)
/-! X11_corner -/
def fX11_corner (n0 : Nat) (x1 : Int32) (x2 : Int32) (M : Mem) : Option (Int32 × Mem) :=
  (fX9_isCorner n0 (gR M 1) x1 M).bind fun z5 =>
  if z5.1 = 0 then
    some ((-1 : Int32), z5.2)
  else
    if x2 = 0 then
      if oob x1 5 then none else
      some ((gA z5.2 11 (Int32.toNatClampNeg x1)), z5.2)
    else
    if x2 = 1 then
      if oob x1 5 then none else
      some ((gA z5.2 12 (Int32.toNatClampNeg x1)), z5.2)
    else
    if x2 = 2 then
      (fX11_hourAt n0 x1 z5.2).bind fun z62 =>
      some (z62.1, z62.2)
    else
    some ((-1 : Int32), z5.2)
theorem tfX11_corner (n0 : Nat) (hO : OKc p (rmL 6) s m args meth c LX D cy ad cX11_corner RX11 3 6 (some .int)) (x1 : Int32) (x2 : Int32) (M : Mem) : BL p l e (rmL 6) s m args below meth c LX D cy ad 3 (QI LX D cy ad) 0 [(0, .ref (ad 0)), (1, .int x1), (2, .int x2)] [] M (fX11_corner n0 x1 x2 M) := by
  unfold fX11_corner
  refine b_aload_n hO dX11_corner_0 0 rfl rfl ?_
  refine b_getR hO flX11_19 kLX_0 (id := 1) rfl rfl (rk := 9) rfl (by decide) dX11_corner_1 (fun hg1 => ?_)
  refine b_iload_n hO dX11_corner_4 1 rfl rfl ?_
  refine b_callVI hO mdX9_isCorner mvX9_isCorner w928 (ci := 9) rfl rfl (by decide) hg1 (As := [.int _]) (st := []) (ctX9_isCorner n0 _ hg1 hO.2.2.2.2.2.2.1 _ _) (Nat.le_of_ble_eq_true rfl) rfl rfl (Nat.le_of_ble_eq_true rfl) dX11_corner_5 (fun z5 => ?_)
  refine b_if_ne hO dX11_corner_8 (tgt := 13) (by decide) ?_ ?_
  · refine b_iload_n hO dX11_corner_13 2 rfl rfl ?_
    refine b_tabIn hO dX11_corner_14 (v := 0) (z := 0) (tgt := 40) (by decide) (by decide) (by decide) rfl (by decide) ?_ (fun hn0 => ?_)
    · refine b_aload_n hO dX11_corner_40 0 rfl rfl ?_
      refine b_get hO flX11_47 kLX_0 (v := .ref (ad 10)) rfl dX11_corner_41 ?_
      refine b_get hO flX11_193 kLX_10 (v := .ref (ad 11)) rfl dX11_corner_44 ?_
      refine b_iload_n hO dX11_corner_47 1 rfl rfl ?_
      refine b_iald hO kLX_11 (n := 5) rfl dX11_corner_48 ?_
      exact b_iret hO dX11_corner_49
    refine b_tabIn hO dX11_corner_14 (v := 1) (z := 1) (tgt := 50) (by decide) (by decide) (by decide) rfl (by decide) ?_ (fun hn1 => ?_)
    · refine b_aload_n hO dX11_corner_50 0 rfl rfl ?_
      refine b_get hO flX11_47 kLX_0 (v := .ref (ad 10)) rfl dX11_corner_51 ?_
      refine b_get hO flX11_195 kLX_10 (v := .ref (ad 12)) rfl dX11_corner_54 ?_
      refine b_iload_n hO dX11_corner_57 1 rfl rfl ?_
      refine b_iald hO kLX_12 (n := 5) rfl dX11_corner_58 ?_
      exact b_iret hO dX11_corner_59
    refine b_tabIn hO dX11_corner_14 (v := 2) (z := 2) (tgt := 60) (by decide) (by decide) (by decide) rfl (by decide) ?_ (fun hn2 => ?_)
    · refine b_aload_n hO dX11_corner_60 0 rfl rfl ?_
      refine b_iload_n hO dX11_corner_61 1 rfl rfl ?_
      refine b_callVI hO mdX11_hourAt mvX11_hourAt w944 (ci := 11) rfl rfl (by decide) kLX_0 (As := [.int _]) (st := []) (ctX11_hourAt n0 hO.2.2.2.2.2.2.1 _ _) (Nat.le_of_ble_eq_true rfl) rfl rfl (Nat.le_of_ble_eq_true rfl) dX11_corner_62 (fun z62 => ?_)
      exact b_iret hO dX11_corner_65
    refine b_tabOut hO dX11_corner_14 (tgt := 66) (by omega) (by decide) ?_
    refine b_iconst hO dX11_corner_66 ic_i_m1 ?_
    exact b_iret hO dX11_corner_67
  · refine b_iconst hO dX11_corner_11 ic_i_m1 ?_
    exact b_iret hO dX11_corner_12
theorem ctX11_corner (n0 : Nat) (hI : Inj LX ad) (x1 : Int32) (x2 : Int32) (M : Mem) : CT l LX D cy ad yX11_corner cX11_corner 3 (some .int) 6 (QI LX D cy ad) [.ref (ad 0), .int x1, .int x2] M (fX11_corner n0 x1 x2 M) :=
  CT.mk LXok hI (by decide) (Nat.le_of_ble_eq_true rfl) (fun hO => tfX11_corner n0 hO x1 x2 M)
/-! X11_doing -/
def fX11_doing (n0 : Nat) (x1 : Int32) (x2 : Int32) (M : Mem) : Option (Int32 × Mem) :=
  (fX9_isDoing n0 (gR M 1) x1 M).bind fun z5 =>
  if z5.1 = 0 then
    some ((-1 : Int32), z5.2)
  else
    if x2 = 0 then
      if oob x1 6 then none else
      some ((gA z5.2 ((gR z5.2 1) + 10) (Int32.toNatClampNeg x1)), z5.2)
    else
    if x2 = 1 then
      if oob x1 6 then none else
      some ((gA z5.2 ((gR z5.2 1) + 11) (Int32.toNatClampNeg x1)), z5.2)
    else
    if x2 = 2 then
      if oob x1 6 then none else
      some ((gA z5.2 13 (Int32.toNatClampNeg x1)), z5.2)
    else
    some ((-1 : Int32), z5.2)
theorem tfX11_doing (n0 : Nat) (hO : OKc p (rmL 2) s m args meth c LX D cy ad cX11_doing RX11 3 2 (some .int)) (x1 : Int32) (x2 : Int32) (M : Mem) : BL p l e (rmL 2) s m args below meth c LX D cy ad 3 (QI LX D cy ad) 0 [(0, .ref (ad 0)), (1, .int x1), (2, .int x2)] [] M (fX11_doing n0 x1 x2 M) := by
  unfold fX11_doing
  refine b_aload_n hO dX11_doing_0 0 rfl rfl ?_
  refine b_getR hO flX11_19 kLX_0 (id := 1) rfl rfl (rk := 9) rfl (by decide) dX11_doing_1 (fun hg1 => ?_)
  refine b_iload_n hO dX11_doing_4 1 rfl rfl ?_
  refine b_callVI hO mdX9_isDoing mvX9_isDoing w932 (ci := 9) rfl rfl (by decide) hg1 (As := [.int _]) (st := []) (ctX9_isDoing n0 _ hg1 hO.2.2.2.2.2.2.1 _ _) (Nat.le_of_ble_eq_true rfl) rfl rfl (Nat.le_of_ble_eq_true rfl) dX11_doing_5 (fun z5 => ?_)
  refine b_if_ne hO dX11_doing_8 (tgt := 13) (by decide) ?_ ?_
  · refine b_iload_n hO dX11_doing_13 2 rfl rfl ?_
    refine b_tabIn hO dX11_doing_14 (v := 0) (z := 0) (tgt := 40) (by decide) (by decide) (by decide) rfl (by decide) ?_ (fun hn0 => ?_)
    · refine b_aload_n hO dX11_doing_40 0 rfl rfl ?_
      refine b_getR hO flX11_19 kLX_0 (id := 1) rfl rfl (rk := 9) rfl (by decide) dX11_doing_41 (fun hg2 => ?_)
      refine b_get hO flX11_201 hg2 (v := .ref (ad ((gR z5.2 1) + 10))) rfl dX11_doing_44 ?_
      refine b_iload_n hO dX11_doing_47 1 rfl rfl ?_
      refine b_iald hO (kt_9_10 hg2) (n := 6) (lt_9_10 hg2) dX11_doing_48 ?_
      exact b_iret hO dX11_doing_49
    refine b_tabIn hO dX11_doing_14 (v := 1) (z := 1) (tgt := 50) (by decide) (by decide) (by decide) rfl (by decide) ?_ (fun hn1 => ?_)
    · refine b_aload_n hO dX11_doing_50 0 rfl rfl ?_
      refine b_getR hO flX11_19 kLX_0 (id := 1) rfl rfl (rk := 9) rfl (by decide) dX11_doing_51 (fun hg3 => ?_)
      refine b_get hO flX11_204 hg3 (v := .ref (ad ((gR z5.2 1) + 11))) rfl dX11_doing_54 ?_
      refine b_iload_n hO dX11_doing_57 1 rfl rfl ?_
      refine b_iald hO (kt_9_11 hg3) (n := 6) (lt_9_11 hg3) dX11_doing_58 ?_
      exact b_iret hO dX11_doing_59
    refine b_tabIn hO dX11_doing_14 (v := 2) (z := 2) (tgt := 60) (by decide) (by decide) (by decide) rfl (by decide) ?_ (fun hn2 => ?_)
    · refine b_aload_n hO dX11_doing_60 0 rfl rfl ?_
      refine b_get hO flX11_47 kLX_0 (v := .ref (ad 10)) rfl dX11_doing_61 ?_
      refine b_get hO flX11_207 kLX_10 (v := .ref (ad 13)) rfl dX11_doing_64 ?_
      refine b_iload_n hO dX11_doing_67 1 rfl rfl ?_
      refine b_iald hO kLX_13 (n := 6) rfl dX11_doing_68 ?_
      exact b_iret hO dX11_doing_69
    refine b_tabOut hO dX11_doing_14 (tgt := 70) (by omega) (by decide) ?_
    refine b_iconst hO dX11_doing_70 ic_i_m1 ?_
    exact b_iret hO dX11_doing_71
  · refine b_iconst hO dX11_doing_11 ic_i_m1 ?_
    exact b_iret hO dX11_doing_12
theorem ctX11_doing (n0 : Nat) (hI : Inj LX ad) (x1 : Int32) (x2 : Int32) (M : Mem) : CT l LX D cy ad yX11_doing cX11_doing 3 (some .int) 2 (QI LX D cy ad) [.ref (ad 0), .int x1, .int x2] M (fX11_doing n0 x1 x2 M) :=
  CT.mk LXok hI (by decide) (Nat.le_of_ble_eq_true rfl) (fun hO => tfX11_doing n0 hO x1 x2 M)
/-! X11_isBeyond -/
def fX11_isBeyond (n0 : Nat) (x1 : Int32) (M : Mem) : Option (Int32 × Mem) :=
  if x1 ≤ ((9999 : Int32) - (gI M 1281)) then
    some ((0 : Int32), M)
  else
    some ((1 : Int32), M)
theorem tfX11_isBeyond (n0 : Nat) (hO : OKc p (rmL 1) s m args meth c LX D cy ad cX11_isBeyond RX11 2 1 (some .boolean)) (x1 : Int32) (M : Mem) : BL p l e (rmL 1) s m args below meth c LX D cy ad 2 (QI LX D cy ad) 0 [(0, .ref (ad 0)), (1, .int x1)] [] M (fX11_isBeyond n0 x1 M) := by
  unfold fX11_isBeyond
  refine b_iload_n hO dX11_isBeyond_0 1 rfl rfl ?_
  refine b_sipush hO dX11_isBeyond_1 ic_s_9999 ?_
  refine b_aload_n hO dX11_isBeyond_4 0 rfl rfl ?_
  refine b_get hO flX11_47 kLX_0 (v := .ref (ad 10)) rfl dX11_isBeyond_5 ?_
  refine b_get hO flX11_148 kLX_10 (v := .int (gI _ 1281)) rfl dX11_isBeyond_8 ?_
  refine b_isub hO dX11_isBeyond_11 ?_
  refine b_icmp_le hO dX11_isBeyond_12 (tgt := 19) (by decide) ?_ ?_
  · refine b_iconst hO dX11_isBeyond_19 ic_i_0 ?_
    exact b_zretc hO (Or.inl rfl) dX11_isBeyond_20
  · refine b_iconst hO dX11_isBeyond_15 ic_i_1 ?_
    refine b_goto hO dX11_isBeyond_16 (tgt := 20) (by decide) ?_
    exact b_zretc hO (Or.inr rfl) dX11_isBeyond_20
theorem ctX11_isBeyond (n0 : Nat) (hI : Inj LX ad) (x1 : Int32) (M : Mem) : CT l LX D cy ad yX11_isBeyond cX11_isBeyond 2 (some .boolean) 1 (QI LX D cy ad) [.ref (ad 0), .int x1] M (fX11_isBeyond n0 x1 M) :=
  CT.mk LXok hI (by decide) (Nat.le_of_ble_eq_true rfl) (fun hO => tfX11_isBeyond n0 hO x1 M)
/-! X11_foresee -/
def fX11_foresee (n0 : Nat) (q2 : Nat) (x1 : Int32) (x3 : Int32) (M : Mem) : Option (Int32 × Mem) :=
  (fX11_lookAt n0 x1 M).bind fun z2 =>
  (fX1_foresee n0 q2 x3 z2).bind fun z11 =>
  some (z11.1, z11.2)
theorem tfX11_foresee (n0 : Nat) (q2 : Nat) (hq2 : isK LX q2 13) (hO : OKc p (rmL 6) s m args meth c LX D cy ad cX11_foresee RX11 4 6 (some .int)) (x1 : Int32) (x3 : Int32) (M : Mem) : BL p l e (rmL 6) s m args below meth c LX D cy ad 4 (QI LX D cy ad) 0 [(0, .ref (ad 0)), (1, .int x1), (2, .ref (ad q2)), (3, .int x3)] [] M (fX11_foresee n0 q2 x1 x3 M) := by
  unfold fX11_foresee
  refine b_aload_n hO dX11_foresee_0 0 rfl rfl ?_
  refine b_iload_n hO dX11_foresee_1 1 rfl rfl ?_
  refine b_callVV hO mdX11_lookAt mvX11_lookAt w948 (ci := 11) rfl rfl (by decide) kLX_0 (As := [.int _]) (st := []) (ctX11_lookAt n0 hO.2.2.2.2.2.2.1 _ _) (Nat.le_of_ble_eq_true rfl) rfl rfl (Nat.le_of_ble_eq_true rfl) dX11_foresee_2 (fun z2 => ?_)
  refine b_aload_n hO dX11_foresee_5 0 rfl rfl ?_
  refine b_get hO flX11_40 kLX_0 (v := .ref (ad 7)) rfl dX11_foresee_6 ?_
  refine b_aload_n hO dX11_foresee_9 2 rfl rfl ?_
  refine b_iload_n hO dX11_foresee_10 3 rfl rfl ?_
  refine b_callVI hO mdX1_foresee mvX1_foresee w970 (ci := 1) rfl rfl (by decide) kLX_7 (As := [.ref _, .int _]) (st := []) (ctX1_foresee n0 _ hq2 hO.2.2.2.2.2.2.1 _ _) (Nat.le_of_ble_eq_true rfl) rfl rfl (Nat.le_of_ble_eq_true rfl) dX11_foresee_11 (fun z11 => ?_)
  exact b_iret hO dX11_foresee_14
theorem ctX11_foresee (n0 : Nat) (q2 : Nat) (hq2 : isK LX q2 13) (hI : Inj LX ad) (x1 : Int32) (x3 : Int32) (M : Mem) : CT l LX D cy ad yX11_foresee cX11_foresee 4 (some .int) 6 (QI LX D cy ad) [.ref (ad 0), .int x1, .ref (ad q2), .int x3] M (fX11_foresee n0 q2 x1 x3 M) :=
  CT.mk LXok hI (by decide) (Nat.le_of_ble_eq_true rfl) (fun hO => tfX11_foresee n0 q2 hq2 hO x1 x3 M)
/-! X11_later -/
def fX11_later (n0 : Nat) (x1 : Int32) (x2 : Int32) (M : Mem) : Option (Int32 × Mem) :=
  (fX9_isCorner n0 (gR M 1) x1 M).bind fun z5 =>
  if z5.1 = 0 then
    some ((-1 : Int32), z5.2)
  else
    if x2 < 0 then
      some ((-1 : Int32), z5.2)
    else
      if (60 : Int32) < x2 then
        some ((-1 : Int32), z5.2)
      else
        (fX11_isBeyond n0 x2 z5.2).bind fun z23 =>
        if z23.1 = 0 then
          (fX11_foresee n0 26 x1 x2 z23.2).bind fun z38 =>
          if oob x2 61 then none else
          some ((gA z38.2 26 (Int32.toNatClampNeg x2)), z38.2)
        else
          some ((-1 : Int32), z23.2)
theorem tfX11_later (n0 : Nat) (hO : OKc p (rmL 7) s m args meth c LX D cy ad cX11_later RX11 3 7 (some .int)) (x1 : Int32) (x2 : Int32) (M : Mem) : BL p l e (rmL 7) s m args below meth c LX D cy ad 3 (QI LX D cy ad) 0 [(0, .ref (ad 0)), (1, .int x1), (2, .int x2)] [] M (fX11_later n0 x1 x2 M) := by
  unfold fX11_later
  refine b_aload_n hO dX11_later_0 0 rfl rfl ?_
  refine b_getR hO flX11_19 kLX_0 (id := 1) rfl rfl (rk := 9) rfl (by decide) dX11_later_1 (fun hg1 => ?_)
  refine b_iload_n hO dX11_later_4 1 rfl rfl ?_
  refine b_callVI hO mdX9_isCorner mvX9_isCorner w928 (ci := 9) rfl rfl (by decide) hg1 (As := [.int _]) (st := []) (ctX9_isCorner n0 _ hg1 hO.2.2.2.2.2.2.1 _ _) (Nat.le_of_ble_eq_true rfl) rfl rfl (Nat.le_of_ble_eq_true rfl) dX11_later_5 (fun z5 => ?_)
  refine b_if_eq hO dX11_later_8 (tgt := 29) (by decide) ?_ ?_
  · refine b_iconst hO dX11_later_29 ic_i_m1 ?_
    exact b_iret hO dX11_later_30
  · refine b_iload_n hO dX11_later_11 2 rfl rfl ?_
    refine b_if_lt hO dX11_later_12 (tgt := 29) (by decide) ?_ ?_
    · refine b_iconst hO dX11_later_29 ic_i_m1 ?_
      exact b_iret hO dX11_later_30
    · refine b_iload_n hO dX11_later_15 2 rfl rfl ?_
      refine b_bipush hO dX11_later_16 ic_b_60 ?_
      refine b_icmp_gt hO dX11_later_18 (tgt := 29) (by decide) ?_ ?_
      · refine b_iconst hO dX11_later_29 ic_i_m1 ?_
        exact b_iret hO dX11_later_30
      · refine b_aload_n hO dX11_later_21 0 rfl rfl ?_
        refine b_iload_n hO dX11_later_22 2 rfl rfl ?_
        refine b_callVI hO mdX11_isBeyond mvX11_isBeyond w962 (ci := 11) rfl rfl (by decide) kLX_0 (As := [.int _]) (st := []) (ctX11_isBeyond n0 hO.2.2.2.2.2.2.1 _ _) (Nat.le_of_ble_eq_true rfl) rfl rfl (Nat.le_of_ble_eq_true rfl) dX11_later_23 (fun z23 => ?_)
        refine b_if_eq hO dX11_later_26 (tgt := 31) (by decide) ?_ ?_
        · refine b_aload_n hO dX11_later_31 0 rfl rfl ?_
          refine b_iload_n hO dX11_later_32 1 rfl rfl ?_
          refine b_aload_n hO dX11_later_33 0 rfl rfl ?_
          refine b_get hO flX11_72 kLX_0 (v := .ref (ad 26)) rfl dX11_later_34 ?_
          refine b_iload_n hO dX11_later_37 2 rfl rfl ?_
          refine b_callVI hO mdX11_foresee mvX11_foresee w966 (ci := 11) rfl rfl (by decide) kLX_0 (As := [.int _, .ref _, .int _]) (st := []) (ctX11_foresee n0 _ kLX_26 hO.2.2.2.2.2.2.1 _ _ _) (Nat.le_of_ble_eq_true rfl) rfl rfl (Nat.le_of_ble_eq_true rfl) dX11_later_38 (fun z38 => ?_)
          refine b_pop hO dX11_later_41 rfl ?_
          refine b_aload_n hO dX11_later_42 0 rfl rfl ?_
          refine b_get hO flX11_72 kLX_0 (v := .ref (ad 26)) rfl dX11_later_43 ?_
          refine b_iload_n hO dX11_later_46 2 rfl rfl ?_
          refine b_iald hO kLX_26 (n := 61) rfl dX11_later_47 ?_
          exact b_iret hO dX11_later_48
        · refine b_iconst hO dX11_later_29 ic_i_m1 ?_
          exact b_iret hO dX11_later_30
theorem ctX11_later (n0 : Nat) (hI : Inj LX ad) (x1 : Int32) (x2 : Int32) (M : Mem) : CT l LX D cy ad yX11_later cX11_later 3 (some .int) 7 (QI LX D cy ad) [.ref (ad 0), .int x1, .int x2] M (fX11_later n0 x1 x2 M) :=
  CT.mk LXok hI (by decide) (Nat.le_of_ble_eq_true rfl) (fun hO => tfX11_later n0 hO x1 x2 M)
/-! X11_when -/
def bX11_when_50 (n0 : Nat) (k50 : Int32 → Int32 → Int32 → Mem → Option (Int32 × Mem)) (x1 : Int32) (x2 : Int32) (x3 : Int32) (M : Mem) : Option (Int32 × Mem) :=
  if x2 < x3 then
    some ((-1 : Int32), M)
  else
    if oob x3 61 then none else
    if oob x1 6 then none else
    if (gA M 26 (Int32.toNatClampNeg x3)) = (gA M ((gR M 1) + 11) (Int32.toNatClampNeg x1)) then
      some (x3, M)
    else
      k50 x1 x2 (x3 + (1 : Int32)) M
def fX11_when_50 (n0 : Nat) : Int32 → Int32 → Int32 → Mem → Option (Int32 × Mem) := loopN (bX11_when_50 n0) (fun _ _ _ _ => none) n0
def fX11_when (n0 : Nat) (x1 : Int32) (M : Mem) : Option (Int32 × Mem) :=
  (fX9_isDoing n0 (gR M 1) x1 M).bind fun z5 =>
  if z5.1 = 0 then
    some ((-1 : Int32), z5.2)
  else
    if oob x1 6 then none else
    if (gA z5.2 13 (Int32.toNatClampNeg x1)) = (1 : Int32) then
      some ((0 : Int32), z5.2)
    else
      if oob x1 6 then none else
      (fX11_foresee n0 26 (gA z5.2 ((gR z5.2 1) + 10) (Int32.toNatClampNeg x1)) (60 : Int32) z5.2).bind fun z44 =>
      fX11_when_50 n0 x1 z44.1 (1 : Int32) z44.2
theorem tbX11_when_50 (n0 : Nat) (hO : OKc p (rmL 7) s m args meth c LX D cy ad cX11_when RX11 4 7 (some .int)) (k50 : Int32 → Int32 → Int32 → Mem → Option (Int32 × Mem)) (hk50 : ∀ (x1 : Int32) (x2 : Int32) (x3 : Int32) (M : Mem), BL p l e (rmL 7) s m args below meth c LX D cy ad 4 (QI LX D cy ad) 50 [(0, .ref (ad 0)), (1, .int x1), (2, .int x2), (3, .int x3)] [] M (k50 x1 x2 x3 M)) (x1 : Int32) (x2 : Int32) (x3 : Int32) (M : Mem) : BL p l e (rmL 7) s m args below meth c LX D cy ad 4 (QI LX D cy ad) 50 [(0, .ref (ad 0)), (1, .int x1), (2, .int x2), (3, .int x3)] [] M (bX11_when_50 n0 k50 x1 x2 x3 M) := by
  unfold bX11_when_50
  refine b_iload_n hO dX11_when_50 3 rfl rfl ?_
  refine b_iload_n hO dX11_when_51 2 rfl rfl ?_
  refine b_icmp_gt hO dX11_when_52 (tgt := 81) (by decide) ?_ ?_
  · refine b_iconst hO dX11_when_81 ic_i_m1 ?_
    exact b_iret hO dX11_when_82
  · refine b_aload_n hO dX11_when_55 0 rfl rfl ?_
    refine b_get hO flX11_72 kLX_0 (v := .ref (ad 26)) rfl dX11_when_56 ?_
    refine b_iload_n hO dX11_when_59 3 rfl rfl ?_
    refine b_iald hO kLX_26 (n := 61) rfl dX11_when_60 ?_
    refine b_aload_n hO dX11_when_61 0 rfl rfl ?_
    refine b_getR hO flX11_19 kLX_0 (id := 1) rfl rfl (rk := 9) rfl (by decide) dX11_when_62 (fun hg1 => ?_)
    refine b_get hO flX11_204 hg1 (v := .ref (ad ((gR M 1) + 11))) rfl dX11_when_65 ?_
    refine b_iload_n hO dX11_when_68 1 rfl rfl ?_
    refine b_iald hO (kt_9_11 hg1) (n := 6) (lt_9_11 hg1) dX11_when_69 ?_
    refine b_icmp_ne hO dX11_when_70 (tgt := 75) (by decide) ?_ ?_
    · refine b_iinc hO dX11_when_75 3 rfl ic_i_1 (by decide) (lv' := [(3, .int _), (0, .ref _), (1, .int _), (2, .int _)]) rfl ?_
      refine b_goto hO dX11_when_78 (tgt := 50) (by decide) ?_
      refine b_sub [1, 2, 3, 0] rfl ?_
      exact hk50 _ _ _ _
    · refine b_iload_n hO dX11_when_73 3 rfl rfl ?_
      exact b_iret hO dX11_when_74
theorem lX11_when_50 (n0 : Nat) (hO : OKc p (rmL 7) s m args meth c LX D cy ad cX11_when RX11 4 7 (some .int)) : ∀ (w : Nat) (x1 : Int32) (x2 : Int32) (x3 : Int32) (M : Mem), BL p l e (rmL 7) s m args below meth c LX D cy ad 4 (QI LX D cy ad) 50 [(0, .ref (ad 0)), (1, .int x1), (2, .int x2), (3, .int x3)] [] M (loopN (bX11_when_50 n0) (fun _ _ _ _ => none) w x1 x2 x3 M) := by
  intro w
  induction w with
  | zero =>
    intros
    exact b_none
  | succ w ih =>
    intro x1 x2 x3 M
    exact tbX11_when_50 n0 hO _ ih x1 x2 x3 M
theorem tfX11_when_50 (n0 : Nat) (hO : OKc p (rmL 7) s m args meth c LX D cy ad cX11_when RX11 4 7 (some .int)) (x1 : Int32) (x2 : Int32) (x3 : Int32) (M : Mem) : BL p l e (rmL 7) s m args below meth c LX D cy ad 4 (QI LX D cy ad) 50 [(0, .ref (ad 0)), (1, .int x1), (2, .int x2), (3, .int x3)] [] M (fX11_when_50 n0 x1 x2 x3 M) := lX11_when_50 n0 hO n0 x1 x2 x3 M
theorem tfX11_when (n0 : Nat) (hO : OKc p (rmL 7) s m args meth c LX D cy ad cX11_when RX11 4 7 (some .int)) (x1 : Int32) (M : Mem) : BL p l e (rmL 7) s m args below meth c LX D cy ad 4 (QI LX D cy ad) 0 [(0, .ref (ad 0)), (1, .int x1)] [] M (fX11_when n0 x1 M) := by
  unfold fX11_when
  refine b_aload_n hO dX11_when_0 0 rfl rfl ?_
  refine b_getR hO flX11_19 kLX_0 (id := 1) rfl rfl (rk := 9) rfl (by decide) dX11_when_1 (fun hg1 => ?_)
  refine b_iload_n hO dX11_when_4 1 rfl rfl ?_
  refine b_callVI hO mdX9_isDoing mvX9_isDoing w932 (ci := 9) rfl rfl (by decide) hg1 (As := [.int _]) (st := []) (ctX9_isDoing n0 _ hg1 hO.2.2.2.2.2.2.1 _ _) (Nat.le_of_ble_eq_true rfl) rfl rfl (Nat.le_of_ble_eq_true rfl) dX11_when_5 (fun z5 => ?_)
  refine b_if_ne hO dX11_when_8 (tgt := 13) (by decide) ?_ ?_
  · refine b_aload_n hO dX11_when_13 0 rfl rfl ?_
    refine b_get hO flX11_47 kLX_0 (v := .ref (ad 10)) rfl dX11_when_14 ?_
    refine b_get hO flX11_207 kLX_10 (v := .ref (ad 13)) rfl dX11_when_17 ?_
    refine b_iload_n hO dX11_when_20 1 rfl rfl ?_
    refine b_iald hO kLX_13 (n := 6) rfl dX11_when_21 ?_
    refine b_iconst hO dX11_when_22 ic_i_1 ?_
    refine b_icmp_ne hO dX11_when_23 (tgt := 28) (by decide) ?_ ?_
    · refine b_aload_n hO dX11_when_28 0 rfl rfl ?_
      refine b_aload_n hO dX11_when_29 0 rfl rfl ?_
      refine b_getR hO flX11_19 kLX_0 (id := 1) rfl rfl (rk := 9) rfl (by decide) dX11_when_30 (fun hg2 => ?_)
      refine b_get hO flX11_201 hg2 (v := .ref (ad ((gR z5.2 1) + 10))) rfl dX11_when_33 ?_
      refine b_iload_n hO dX11_when_36 1 rfl rfl ?_
      refine b_iald hO (kt_9_10 hg2) (n := 6) (lt_9_10 hg2) dX11_when_37 ?_
      refine b_aload_n hO dX11_when_38 0 rfl rfl ?_
      refine b_get hO flX11_72 kLX_0 (v := .ref (ad 26)) rfl dX11_when_39 ?_
      refine b_bipush hO dX11_when_42 ic_b_60 ?_
      refine b_callVI hO mdX11_foresee mvX11_foresee w966 (ci := 11) rfl rfl (by decide) kLX_0 (As := [.int _, .ref _, .int _]) (st := []) (ctX11_foresee n0 _ kLX_26 hO.2.2.2.2.2.2.1 _ _ _) (Nat.le_of_ble_eq_true rfl) rfl rfl (Nat.le_of_ble_eq_true rfl) dX11_when_44 (fun z44 => ?_)
      refine b_istore_n hO dX11_when_47 rfl (by decide) (lv' := [(2, .int _), (0, .ref _), (1, .int _)]) rfl ?_
      refine b_iconst hO dX11_when_48 ic_i_1 ?_
      refine b_istore_n hO dX11_when_49 rfl (by decide) (lv' := [(3, .int _), (2, .int _), (0, .ref _), (1, .int _)]) rfl ?_
      refine b_sub [2, 3, 1, 0] rfl ?_
      exact tfX11_when_50 n0 hO _ _ _ _
    · refine b_iconst hO dX11_when_26 ic_i_0 ?_
      exact b_iret hO dX11_when_27
  · refine b_iconst hO dX11_when_11 ic_i_m1 ?_
    exact b_iret hO dX11_when_12
theorem ctX11_when (n0 : Nat) (hI : Inj LX ad) (x1 : Int32) (M : Mem) : CT l LX D cy ad yX11_when cX11_when 4 (some .int) 7 (QI LX D cy ad) [.ref (ad 0), .int x1] M (fX11_when n0 x1 M) :=
  CT.mk LXok hI (by decide) (Nat.le_of_ble_eq_true rfl) (fun hO => tfX11_when n0 hO x1 M)
/-! X11_alike -/
def bX11_alike_56 (n0 : Nat) (k56 : Int32 → Int32 → Mem → Option (Int32 × Mem)) (x3 : Int32) (x4 : Int32) (M : Mem) : Option (Int32 × Mem) :=
  if x3 < x4 then
    some ((-1 : Int32), M)
  else
    if oob x4 61 then none else
    if oob x4 61 then none else
    if (gA M 26 (Int32.toNatClampNeg x4)) = (gA M 27 (Int32.toNatClampNeg x4)) then
      some (x4, M)
    else
      k56 x3 (x4 + (1 : Int32)) M
def fX11_alike_56 (n0 : Nat) : Int32 → Int32 → Mem → Option (Int32 × Mem) := loopN (bX11_alike_56 n0) (fun _ _ _ => none) n0
def fX11_alike (n0 : Nat) (x1 : Int32) (x2 : Int32) (M : Mem) : Option (Int32 × Mem) :=
  (fX9_isCorner n0 (gR M 1) x1 M).bind fun z5 =>
  if z5.1 = 0 then
    some ((-1 : Int32), z5.2)
  else
    (fX9_isCorner n0 (gR z5.2 1) x2 z5.2).bind fun z16 =>
    if z16.1 = 0 then
      some ((-1 : Int32), z16.2)
    else
      if x1 = x2 then
        some ((-1 : Int32), z16.2)
      else
        (fX11_foresee n0 26 x1 (60 : Int32) z16.2).bind fun z37 =>
        (fX11_foresee n0 27 x2 (60 : Int32) z37.2).bind fun z49 =>
        fX11_alike_56 n0 z37.1 (0 : Int32) z49.2
theorem tbX11_alike_56 (n0 : Nat) (hO : OKc p (rmL 7) s m args meth c LX D cy ad cX11_alike RX11 5 7 (some .int)) (k56 : Int32 → Int32 → Mem → Option (Int32 × Mem)) (hk56 : ∀ (x3 : Int32) (x4 : Int32) (M : Mem), BL p l e (rmL 7) s m args below meth c LX D cy ad 5 (QI LX D cy ad) 56 [(0, .ref (ad 0)), (3, .int x3), (4, .int x4)] [] M (k56 x3 x4 M)) (x3 : Int32) (x4 : Int32) (M : Mem) : BL p l e (rmL 7) s m args below meth c LX D cy ad 5 (QI LX D cy ad) 56 [(0, .ref (ad 0)), (3, .int x3), (4, .int x4)] [] M (bX11_alike_56 n0 k56 x3 x4 M) := by
  unfold bX11_alike_56
  refine b_iload hO dX11_alike_56 2 rfl ?_
  refine b_iload_n hO dX11_alike_58 1 rfl rfl ?_
  refine b_icmp_gt hO dX11_alike_59 (tgt := 88) (by decide) ?_ ?_
  · refine b_iconst hO dX11_alike_88 ic_i_m1 ?_
    exact b_iret hO dX11_alike_89
  · refine b_aload_n hO dX11_alike_62 0 rfl rfl ?_
    refine b_get hO flX11_72 kLX_0 (v := .ref (ad 26)) rfl dX11_alike_63 ?_
    refine b_iload hO dX11_alike_66 2 rfl ?_
    refine b_iald hO kLX_26 (n := 61) rfl dX11_alike_68 ?_
    refine b_aload_n hO dX11_alike_69 0 rfl rfl ?_
    refine b_get hO flX11_76 kLX_0 (v := .ref (ad 27)) rfl dX11_alike_70 ?_
    refine b_iload hO dX11_alike_73 2 rfl ?_
    refine b_iald hO kLX_27 (n := 61) rfl dX11_alike_75 ?_
    refine b_icmp_ne hO dX11_alike_76 (tgt := 82) (by decide) ?_ ?_
    · refine b_iinc hO dX11_alike_82 2 rfl ic_i_1 (by decide) (lv' := [(4, .int _), (0, .ref _), (3, .int _)]) rfl ?_
      refine b_goto hO dX11_alike_85 (tgt := 56) (by decide) ?_
      refine b_sub [1, 2, 0] rfl ?_
      exact hk56 _ _ _
    · refine b_iload hO dX11_alike_79 2 rfl ?_
      exact b_iret hO dX11_alike_81
theorem lX11_alike_56 (n0 : Nat) (hO : OKc p (rmL 7) s m args meth c LX D cy ad cX11_alike RX11 5 7 (some .int)) : ∀ (w : Nat) (x3 : Int32) (x4 : Int32) (M : Mem), BL p l e (rmL 7) s m args below meth c LX D cy ad 5 (QI LX D cy ad) 56 [(0, .ref (ad 0)), (3, .int x3), (4, .int x4)] [] M (loopN (bX11_alike_56 n0) (fun _ _ _ => none) w x3 x4 M) := by
  intro w
  induction w with
  | zero =>
    intros
    exact b_none
  | succ w ih =>
    intro x3 x4 M
    exact tbX11_alike_56 n0 hO _ ih x3 x4 M
theorem tfX11_alike_56 (n0 : Nat) (hO : OKc p (rmL 7) s m args meth c LX D cy ad cX11_alike RX11 5 7 (some .int)) (x3 : Int32) (x4 : Int32) (M : Mem) : BL p l e (rmL 7) s m args below meth c LX D cy ad 5 (QI LX D cy ad) 56 [(0, .ref (ad 0)), (3, .int x3), (4, .int x4)] [] M (fX11_alike_56 n0 x3 x4 M) := lX11_alike_56 n0 hO n0 x3 x4 M
theorem tfX11_alike (n0 : Nat) (hO : OKc p (rmL 7) s m args meth c LX D cy ad cX11_alike RX11 5 7 (some .int)) (x1 : Int32) (x2 : Int32) (M : Mem) : BL p l e (rmL 7) s m args below meth c LX D cy ad 5 (QI LX D cy ad) 0 [(0, .ref (ad 0)), (1, .int x1), (2, .int x2)] [] M (fX11_alike n0 x1 x2 M) := by
  unfold fX11_alike
  refine b_aload_n hO dX11_alike_0 0 rfl rfl ?_
  refine b_getR hO flX11_19 kLX_0 (id := 1) rfl rfl (rk := 9) rfl (by decide) dX11_alike_1 (fun hg1 => ?_)
  refine b_iload_n hO dX11_alike_4 1 rfl rfl ?_
  refine b_callVI hO mdX9_isCorner mvX9_isCorner w928 (ci := 9) rfl rfl (by decide) hg1 (As := [.int _]) (st := []) (ctX9_isCorner n0 _ hg1 hO.2.2.2.2.2.2.1 _ _) (Nat.le_of_ble_eq_true rfl) rfl rfl (Nat.le_of_ble_eq_true rfl) dX11_alike_5 (fun z5 => ?_)
  refine b_if_eq hO dX11_alike_8 (tgt := 27) (by decide) ?_ ?_
  · refine b_iconst hO dX11_alike_27 ic_i_m1 ?_
    exact b_iret hO dX11_alike_28
  · refine b_aload_n hO dX11_alike_11 0 rfl rfl ?_
    refine b_getR hO flX11_19 kLX_0 (id := 1) rfl rfl (rk := 9) rfl (by decide) dX11_alike_12 (fun hg2 => ?_)
    refine b_iload_n hO dX11_alike_15 2 rfl rfl ?_
    refine b_callVI hO mdX9_isCorner mvX9_isCorner w928 (ci := 9) rfl rfl (by decide) hg2 (As := [.int _]) (st := []) (ctX9_isCorner n0 _ hg2 hO.2.2.2.2.2.2.1 _ _) (Nat.le_of_ble_eq_true rfl) rfl rfl (Nat.le_of_ble_eq_true rfl) dX11_alike_16 (fun z16 => ?_)
    refine b_if_eq hO dX11_alike_19 (tgt := 27) (by decide) ?_ ?_
    · refine b_iconst hO dX11_alike_27 ic_i_m1 ?_
      exact b_iret hO dX11_alike_28
    · refine b_iload_n hO dX11_alike_22 1 rfl rfl ?_
      refine b_iload_n hO dX11_alike_23 2 rfl rfl ?_
      refine b_icmp_ne hO dX11_alike_24 (tgt := 29) (by decide) ?_ ?_
      · refine b_aload_n hO dX11_alike_29 0 rfl rfl ?_
        refine b_iload_n hO dX11_alike_30 1 rfl rfl ?_
        refine b_aload_n hO dX11_alike_31 0 rfl rfl ?_
        refine b_get hO flX11_72 kLX_0 (v := .ref (ad 26)) rfl dX11_alike_32 ?_
        refine b_bipush hO dX11_alike_35 ic_b_60 ?_
        refine b_callVI hO mdX11_foresee mvX11_foresee w966 (ci := 11) rfl rfl (by decide) kLX_0 (As := [.int _, .ref _, .int _]) (st := []) (ctX11_foresee n0 _ kLX_26 hO.2.2.2.2.2.2.1 _ _ _) (Nat.le_of_ble_eq_true rfl) rfl rfl (Nat.le_of_ble_eq_true rfl) dX11_alike_37 (fun z37 => ?_)
        refine b_istore_n hO dX11_alike_40 rfl (by decide) (lv' := [(3, .int _), (0, .ref _), (1, .int _), (2, .int _)]) rfl ?_
        refine b_aload_n hO dX11_alike_41 1 rfl rfl ?_
        refine b_iload_n hO dX11_alike_42 3 rfl rfl ?_
        refine b_aload_n hO dX11_alike_43 1 rfl rfl ?_
        refine b_get hO flX11_76 kLX_0 (v := .ref (ad 27)) rfl dX11_alike_44 ?_
        refine b_bipush hO dX11_alike_47 ic_b_60 ?_
        refine b_callVI hO mdX11_foresee mvX11_foresee w966 (ci := 11) rfl rfl (by decide) kLX_0 (As := [.int _, .ref _, .int _]) (st := []) (ctX11_foresee n0 _ kLX_27 hO.2.2.2.2.2.2.1 _ _ _) (Nat.le_of_ble_eq_true rfl) rfl rfl (Nat.le_of_ble_eq_true rfl) dX11_alike_49 (fun z49 => ?_)
        refine b_pop hO dX11_alike_52 rfl ?_
        refine b_iconst hO dX11_alike_53 ic_i_0 ?_
        refine b_istore hO dX11_alike_54 (by decide) (lv' := [(4, .int _), (3, .int _), (0, .ref _), (1, .int _), (2, .int _)]) rfl ?_
        refine b_sub [2, 1, 0] rfl ?_
        exact tfX11_alike_56 n0 hO _ _ _
      · refine b_iconst hO dX11_alike_27 ic_i_m1 ?_
        exact b_iret hO dX11_alike_28
theorem ctX11_alike (n0 : Nat) (hI : Inj LX ad) (x1 : Int32) (x2 : Int32) (M : Mem) : CT l LX D cy ad yX11_alike cX11_alike 5 (some .int) 7 (QI LX D cy ad) [.ref (ad 0), .int x1, .int x2] M (fX11_alike n0 x1 x2 M) :=
  CT.mk LXok hI (by decide) (Nat.le_of_ble_eq_true rfl) (fun hO => tfX11_alike n0 hO x1 x2 M)
/-! X11_tellsWithin -/
def bX11_tellsWithin_3 (n0 : Nat) (k3 : Int32 → Int32 → Int32 → Mem → Option (Int32 × Mem)) (x1 : Int32) (x3 : Int32) (x4 : Int32) (M : Mem) : Option (Int32 × Mem) :=
  if x3 < x4 then
    some ((0 : Int32), M)
  else
    if oob x4 61 then none else
    if (gA M 26 (Int32.toNatClampNeg x4)) = x1 then
      some ((1 : Int32), M)
    else
      k3 x1 x3 (x4 + (1 : Int32)) M
def fX11_tellsWithin_3 (n0 : Nat) : Int32 → Int32 → Int32 → Mem → Option (Int32 × Mem) := loopN (bX11_tellsWithin_3 n0) (fun _ _ _ _ => none) n0
def fX11_tellsWithin (n0 : Nat) (x1 : Int32) (x2 : Int32) (x3 : Int32) (M : Mem) : Option (Int32 × Mem) :=
  fX11_tellsWithin_3 n0 x1 x3 x2 M
theorem tbX11_tellsWithin_3 (n0 : Nat) (hO : OKc p (rmL 1) s m args meth c LX D cy ad cX11_tellsWithin RX11 5 1 (some .boolean)) (k3 : Int32 → Int32 → Int32 → Mem → Option (Int32 × Mem)) (hk3 : ∀ (x1 : Int32) (x3 : Int32) (x4 : Int32) (M : Mem), BL p l e (rmL 1) s m args below meth c LX D cy ad 5 (QI LX D cy ad) 3 [(0, .ref (ad 0)), (1, .int x1), (3, .int x3), (4, .int x4)] [] M (k3 x1 x3 x4 M)) (x1 : Int32) (x3 : Int32) (x4 : Int32) (M : Mem) : BL p l e (rmL 1) s m args below meth c LX D cy ad 5 (QI LX D cy ad) 3 [(0, .ref (ad 0)), (1, .int x1), (3, .int x3), (4, .int x4)] [] M (bX11_tellsWithin_3 n0 k3 x1 x3 x4 M) := by
  unfold bX11_tellsWithin_3
  refine b_iload hO dX11_tellsWithin_3 3 rfl ?_
  refine b_iload_n hO dX11_tellsWithin_5 2 rfl rfl ?_
  refine b_icmp_gt hO dX11_tellsWithin_6 (tgt := 28) (by decide) ?_ ?_
  · refine b_iconst hO dX11_tellsWithin_28 ic_i_0 ?_
    exact b_zretc hO (Or.inl rfl) dX11_tellsWithin_29
  · refine b_aload_n hO dX11_tellsWithin_9 0 rfl rfl ?_
    refine b_get hO flX11_72 kLX_0 (v := .ref (ad 26)) rfl dX11_tellsWithin_10 ?_
    refine b_iload hO dX11_tellsWithin_13 3 rfl ?_
    refine b_iald hO kLX_26 (n := 61) rfl dX11_tellsWithin_15 ?_
    refine b_iload_n hO dX11_tellsWithin_16 1 rfl rfl ?_
    refine b_icmp_ne hO dX11_tellsWithin_17 (tgt := 22) (by decide) ?_ ?_
    · refine b_iinc hO dX11_tellsWithin_22 3 rfl ic_i_1 (by decide) (lv' := [(4, .int _), (0, .ref _), (1, .int _), (3, .int _)]) rfl ?_
      refine b_goto hO dX11_tellsWithin_25 (tgt := 3) (by decide) ?_
      refine b_sub [1, 2, 3, 0] rfl ?_
      exact hk3 _ _ _ _
    · refine b_iconst hO dX11_tellsWithin_20 ic_i_1 ?_
      exact b_zretc hO (Or.inr rfl) dX11_tellsWithin_21
theorem lX11_tellsWithin_3 (n0 : Nat) (hO : OKc p (rmL 1) s m args meth c LX D cy ad cX11_tellsWithin RX11 5 1 (some .boolean)) : ∀ (w : Nat) (x1 : Int32) (x3 : Int32) (x4 : Int32) (M : Mem), BL p l e (rmL 1) s m args below meth c LX D cy ad 5 (QI LX D cy ad) 3 [(0, .ref (ad 0)), (1, .int x1), (3, .int x3), (4, .int x4)] [] M (loopN (bX11_tellsWithin_3 n0) (fun _ _ _ _ => none) w x1 x3 x4 M) := by
  intro w
  induction w with
  | zero =>
    intros
    exact b_none
  | succ w ih =>
    intro x1 x3 x4 M
    exact tbX11_tellsWithin_3 n0 hO _ ih x1 x3 x4 M
theorem tfX11_tellsWithin_3 (n0 : Nat) (hO : OKc p (rmL 1) s m args meth c LX D cy ad cX11_tellsWithin RX11 5 1 (some .boolean)) (x1 : Int32) (x3 : Int32) (x4 : Int32) (M : Mem) : BL p l e (rmL 1) s m args below meth c LX D cy ad 5 (QI LX D cy ad) 3 [(0, .ref (ad 0)), (1, .int x1), (3, .int x3), (4, .int x4)] [] M (fX11_tellsWithin_3 n0 x1 x3 x4 M) := lX11_tellsWithin_3 n0 hO n0 x1 x3 x4 M
theorem tfX11_tellsWithin (n0 : Nat) (hO : OKc p (rmL 1) s m args meth c LX D cy ad cX11_tellsWithin RX11 5 1 (some .boolean)) (x1 : Int32) (x2 : Int32) (x3 : Int32) (M : Mem) : BL p l e (rmL 1) s m args below meth c LX D cy ad 5 (QI LX D cy ad) 0 [(0, .ref (ad 0)), (1, .int x1), (2, .int x2), (3, .int x3)] [] M (fX11_tellsWithin n0 x1 x2 x3 M) := by
  unfold fX11_tellsWithin
  refine b_iload_n hO dX11_tellsWithin_0 2 rfl rfl ?_
  refine b_istore hO dX11_tellsWithin_1 (by decide) (lv' := [(4, .int _), (0, .ref _), (1, .int _), (2, .int _), (3, .int _)]) rfl ?_
  refine b_sub [1, 2, 4, 0] rfl ?_
  exact tfX11_tellsWithin_3 n0 hO _ _ _ _
theorem ctX11_tellsWithin (n0 : Nat) (hI : Inj LX ad) (x1 : Int32) (x2 : Int32) (x3 : Int32) (M : Mem) : CT l LX D cy ad yX11_tellsWithin cX11_tellsWithin 5 (some .boolean) 1 (QI LX D cy ad) [.ref (ad 0), .int x1, .int x2, .int x3] M (fX11_tellsWithin n0 x1 x2 x3 M) :=
  CT.mk LXok hI (by decide) (Nat.le_of_ble_eq_true rfl) (fun hO => tfX11_tellsWithin n0 hO x1 x2 x3 M)
/-! X11_doesAll -/
def fX11_doesAll_86 (n0 : Nat) (k3 : Int32 → Int32 → Int32 → Int32 → Int32 → Mem → Option (Int32 × Mem)) (x1 : Int32) (x2 : Int32) (x3 : Int32) (x4 : Int32) (x5 : Int32) (M : Mem) : Option (Int32 × Mem) :=
  k3 x1 x2 x3 x4 (x5 + (1 : Int32)) M
def fX11_doesAll_44 (n0 : Nat) (k3 : Int32 → Int32 → Int32 → Int32 → Int32 → Mem → Option (Int32 × Mem)) (x1 : Int32) (x2 : Int32) (x3 : Int32) (x4 : Int32) (x5 : Int32) (u0 : Int32) (M : Mem) : Option (Int32 × Mem) :=
  if u0 = 0 then
    fX11_doesAll_86 n0 k3 x1 x2 x3 x4 x5 M
  else
    if oob x5 6 then none else
    if (gA M 13 (Int32.toNatClampNeg x5)) = 0 then
      if oob x5 6 then none else
      (fX11_tellsWithin n0 (gA M ((gR M 1) + 11) (Int32.toNatClampNeg x5)) x3 x4 M).bind fun z78 =>
      if z78.1 = 0 then
        some ((0 : Int32), z78.2)
      else
        fX11_doesAll_86 n0 k3 x1 x2 x3 x4 x5 z78.2
    else
      fX11_doesAll_86 n0 k3 x1 x2 x3 x4 x5 M
def fX11_doesAll_43 (n0 : Nat) (k3 : Int32 → Int32 → Int32 → Int32 → Int32 → Mem → Option (Int32 × Mem)) (x1 : Int32) (x2 : Int32) (x3 : Int32) (x4 : Int32) (x5 : Int32) (M : Mem) : Option (Int32 × Mem) :=
  fX11_doesAll_44 n0 k3 x1 x2 x3 x4 x5 (0 : Int32) M
def bX11_doesAll_3 (n0 : Nat) (k3 : Int32 → Int32 → Int32 → Int32 → Int32 → Mem → Option (Int32 × Mem)) (x1 : Int32) (x2 : Int32) (x3 : Int32) (x4 : Int32) (x5 : Int32) (M : Mem) : Option (Int32 × Mem) :=
  if (gI M (128 * (gR M 1) + 12)) ≤ x5 then
    some ((1 : Int32), M)
  else
    if ((x2 >>> (x5 &&& 31)) &&& (1 : Int32)) = (1 : Int32) then
      if oob x5 6 then none else
      if (gA M ((gR M 1) + 10) (Int32.toNatClampNeg x5)) = x1 then
        fX11_doesAll_44 n0 k3 x1 x2 x3 x4 x5 (1 : Int32) M
      else
        fX11_doesAll_43 n0 k3 x1 x2 x3 x4 x5 M
    else
      fX11_doesAll_43 n0 k3 x1 x2 x3 x4 x5 M
def fX11_doesAll_3 (n0 : Nat) : Int32 → Int32 → Int32 → Int32 → Int32 → Mem → Option (Int32 × Mem) := loopN (bX11_doesAll_3 n0) (fun _ _ _ _ _ _ => none) n0
def fX11_doesAll (n0 : Nat) (x1 : Int32) (x2 : Int32) (x3 : Int32) (x4 : Int32) (M : Mem) : Option (Int32 × Mem) :=
  fX11_doesAll_3 n0 x1 x2 x3 x4 (0 : Int32) M
theorem tfX11_doesAll_86 (n0 : Nat) (hO : OKc p (rmL 2) s m args meth c LX D cy ad cX11_doesAll RX11 7 2 (some .boolean)) (k3 : Int32 → Int32 → Int32 → Int32 → Int32 → Mem → Option (Int32 × Mem)) (hk3 : ∀ (x1 : Int32) (x2 : Int32) (x3 : Int32) (x4 : Int32) (x5 : Int32) (M : Mem), BL p l e (rmL 2) s m args below meth c LX D cy ad 7 (QI LX D cy ad) 3 [(0, .ref (ad 0)), (1, .int x1), (2, .int x2), (3, .int x3), (4, .int x4), (5, .int x5)] [] M (k3 x1 x2 x3 x4 x5 M)) (x1 : Int32) (x2 : Int32) (x3 : Int32) (x4 : Int32) (x5 : Int32) (M : Mem) : BL p l e (rmL 2) s m args below meth c LX D cy ad 7 (QI LX D cy ad) 86 [(0, .ref (ad 0)), (1, .int x1), (2, .int x2), (3, .int x3), (4, .int x4), (5, .int x5)] [] M (fX11_doesAll_86 n0 k3 x1 x2 x3 x4 x5 M) := by
  unfold fX11_doesAll_86
  refine b_iinc hO dX11_doesAll_86 5 rfl ic_i_1 (by decide) (lv' := [(5, .int _), (0, .ref _), (1, .int _), (2, .int _), (3, .int _), (4, .int _)]) rfl ?_
  refine b_goto hO dX11_doesAll_89 (tgt := 3) (by decide) ?_
  refine b_sub [1, 2, 3, 4, 5, 0] rfl ?_
  exact hk3 _ _ _ _ _ _
theorem tfX11_doesAll_44 (n0 : Nat) (hO : OKc p (rmL 2) s m args meth c LX D cy ad cX11_doesAll RX11 7 2 (some .boolean)) (k3 : Int32 → Int32 → Int32 → Int32 → Int32 → Mem → Option (Int32 × Mem)) (hk3 : ∀ (x1 : Int32) (x2 : Int32) (x3 : Int32) (x4 : Int32) (x5 : Int32) (M : Mem), BL p l e (rmL 2) s m args below meth c LX D cy ad 7 (QI LX D cy ad) 3 [(0, .ref (ad 0)), (1, .int x1), (2, .int x2), (3, .int x3), (4, .int x4), (5, .int x5)] [] M (k3 x1 x2 x3 x4 x5 M)) (x1 : Int32) (x2 : Int32) (x3 : Int32) (x4 : Int32) (x5 : Int32) (u0 : Int32) (M : Mem) : BL p l e (rmL 2) s m args below meth c LX D cy ad 7 (QI LX D cy ad) 44 [(0, .ref (ad 0)), (1, .int x1), (2, .int x2), (3, .int x3), (4, .int x4), (5, .int x5)] [.int u0] M (fX11_doesAll_44 n0 k3 x1 x2 x3 x4 x5 u0 M) := by
  unfold fX11_doesAll_44
  refine b_istore hO dX11_doesAll_44 (by decide) (lv' := [(6, .int _), (0, .ref _), (1, .int _), (2, .int _), (3, .int _), (4, .int _), (5, .int _)]) rfl ?_
  refine b_iload hO dX11_doesAll_46 0 rfl ?_
  refine b_if_eq hO dX11_doesAll_48 (tgt := 86) (by decide) ?_ ?_
  · refine b_sub [1, 2, 3, 4, 5, 6] rfl ?_
    exact tfX11_doesAll_86 n0 hO k3 hk3 _ _ _ _ _ _
  · refine b_aload_n hO dX11_doesAll_51 1 rfl rfl ?_
    refine b_get hO flX11_47 kLX_0 (v := .ref (ad 10)) rfl dX11_doesAll_52 ?_
    refine b_get hO flX11_207 kLX_10 (v := .ref (ad 13)) rfl dX11_doesAll_55 ?_
    refine b_iload hO dX11_doesAll_58 6 rfl ?_
    refine b_iald hO kLX_13 (n := 6) rfl dX11_doesAll_60 ?_
    refine b_if_ne hO dX11_doesAll_61 (tgt := 86) (by decide) ?_ ?_
    · refine b_sub [1, 2, 3, 4, 5, 6] rfl ?_
      exact tfX11_doesAll_86 n0 hO k3 hk3 _ _ _ _ _ _
    · refine b_aload_n hO dX11_doesAll_64 1 rfl rfl ?_
      refine b_aload_n hO dX11_doesAll_65 1 rfl rfl ?_
      refine b_getR hO flX11_19 kLX_0 (id := 1) rfl rfl (rk := 9) rfl (by decide) dX11_doesAll_66 (fun hg1 => ?_)
      refine b_get hO flX11_204 hg1 (v := .ref (ad ((gR M 1) + 11))) rfl dX11_doesAll_69 ?_
      refine b_iload hO dX11_doesAll_72 6 rfl ?_
      refine b_iald hO (kt_9_11 hg1) (n := 6) (lt_9_11 hg1) dX11_doesAll_74 ?_
      refine b_iload_n hO dX11_doesAll_75 4 rfl rfl ?_
      refine b_iload hO dX11_doesAll_76 5 rfl ?_
      refine b_callVI hO mdX11_tellsWithin mvX11_tellsWithin w1003 (ci := 11) rfl rfl (by decide) kLX_0 (As := [.int _, .int _, .int _]) (st := []) (ctX11_tellsWithin n0 hO.2.2.2.2.2.2.1 _ _ _ _) (Nat.le_of_ble_eq_true rfl) rfl rfl (Nat.le_of_ble_eq_true rfl) dX11_doesAll_78 (fun z78 => ?_)
      refine b_if_ne hO dX11_doesAll_81 (tgt := 86) (by decide) ?_ ?_
      · refine b_sub [1, 2, 3, 4, 5, 6] rfl ?_
        exact tfX11_doesAll_86 n0 hO k3 hk3 _ _ _ _ _ _
      · refine b_iconst hO dX11_doesAll_84 ic_i_0 ?_
        exact b_zretc hO (Or.inl rfl) dX11_doesAll_85
theorem tfX11_doesAll_43 (n0 : Nat) (hO : OKc p (rmL 2) s m args meth c LX D cy ad cX11_doesAll RX11 7 2 (some .boolean)) (k3 : Int32 → Int32 → Int32 → Int32 → Int32 → Mem → Option (Int32 × Mem)) (hk3 : ∀ (x1 : Int32) (x2 : Int32) (x3 : Int32) (x4 : Int32) (x5 : Int32) (M : Mem), BL p l e (rmL 2) s m args below meth c LX D cy ad 7 (QI LX D cy ad) 3 [(0, .ref (ad 0)), (1, .int x1), (2, .int x2), (3, .int x3), (4, .int x4), (5, .int x5)] [] M (k3 x1 x2 x3 x4 x5 M)) (x1 : Int32) (x2 : Int32) (x3 : Int32) (x4 : Int32) (x5 : Int32) (M : Mem) : BL p l e (rmL 2) s m args below meth c LX D cy ad 7 (QI LX D cy ad) 43 [(0, .ref (ad 0)), (1, .int x1), (2, .int x2), (3, .int x3), (4, .int x4), (5, .int x5)] [] M (fX11_doesAll_43 n0 k3 x1 x2 x3 x4 x5 M) := by
  unfold fX11_doesAll_43
  refine b_iconst hO dX11_doesAll_43 ic_i_0 ?_
  exact tfX11_doesAll_44 n0 hO k3 hk3 _ _ _ _ _ _ _
theorem tbX11_doesAll_3 (n0 : Nat) (hO : OKc p (rmL 2) s m args meth c LX D cy ad cX11_doesAll RX11 7 2 (some .boolean)) (k3 : Int32 → Int32 → Int32 → Int32 → Int32 → Mem → Option (Int32 × Mem)) (hk3 : ∀ (x1 : Int32) (x2 : Int32) (x3 : Int32) (x4 : Int32) (x5 : Int32) (M : Mem), BL p l e (rmL 2) s m args below meth c LX D cy ad 7 (QI LX D cy ad) 3 [(0, .ref (ad 0)), (1, .int x1), (2, .int x2), (3, .int x3), (4, .int x4), (5, .int x5)] [] M (k3 x1 x2 x3 x4 x5 M)) (x1 : Int32) (x2 : Int32) (x3 : Int32) (x4 : Int32) (x5 : Int32) (M : Mem) : BL p l e (rmL 2) s m args below meth c LX D cy ad 7 (QI LX D cy ad) 3 [(0, .ref (ad 0)), (1, .int x1), (2, .int x2), (3, .int x3), (4, .int x4), (5, .int x5)] [] M (bX11_doesAll_3 n0 k3 x1 x2 x3 x4 x5 M) := by
  unfold bX11_doesAll_3
  refine b_iload hO dX11_doesAll_3 5 rfl ?_
  refine b_aload_n hO dX11_doesAll_5 0 rfl rfl ?_
  refine b_getR hO flX11_19 kLX_0 (id := 1) rfl rfl (rk := 9) rfl (by decide) dX11_doesAll_6 (fun hg1 => ?_)
  refine b_get hO flX11_145 hg1 (v := .int (gI _ (128 * (gR M 1) + 12))) rfl dX11_doesAll_9 ?_
  refine b_icmp_ge hO dX11_doesAll_12 (tgt := 92) (by decide) ?_ ?_
  · refine b_iconst hO dX11_doesAll_92 ic_i_1 ?_
    exact b_zretc hO (Or.inr rfl) dX11_doesAll_93
  · refine b_iload_n hO dX11_doesAll_15 2 rfl rfl ?_
    refine b_iload hO dX11_doesAll_16 5 rfl ?_
    refine b_ishr hO dX11_doesAll_18 ?_
    refine b_iconst hO dX11_doesAll_19 ic_i_1 ?_
    refine b_iand hO dX11_doesAll_20 ?_
    refine b_iconst hO dX11_doesAll_21 ic_i_1 ?_
    refine b_icmp_ne hO dX11_doesAll_22 (tgt := 43) (by decide) ?_ ?_
    · exact tfX11_doesAll_43 n0 hO k3 hk3 _ _ _ _ _ _
    · refine b_aload_n hO dX11_doesAll_25 0 rfl rfl ?_
      refine b_getR hO flX11_19 kLX_0 (id := 1) rfl rfl (rk := 9) rfl (by decide) dX11_doesAll_26 (fun hg2 => ?_)
      refine b_get hO flX11_201 hg2 (v := .ref (ad ((gR M 1) + 10))) rfl dX11_doesAll_29 ?_
      refine b_iload hO dX11_doesAll_32 5 rfl ?_
      refine b_iald hO (kt_9_10 hg2) (n := 6) (lt_9_10 hg2) dX11_doesAll_34 ?_
      refine b_iload_n hO dX11_doesAll_35 1 rfl rfl ?_
      refine b_icmp_ne hO dX11_doesAll_36 (tgt := 43) (by decide) ?_ ?_
      · exact tfX11_doesAll_43 n0 hO k3 hk3 _ _ _ _ _ _
      · refine b_iconst hO dX11_doesAll_39 ic_i_1 ?_
        refine b_goto hO dX11_doesAll_40 (tgt := 44) (by decide) ?_
        exact tfX11_doesAll_44 n0 hO k3 hk3 _ _ _ _ _ _ _
theorem lX11_doesAll_3 (n0 : Nat) (hO : OKc p (rmL 2) s m args meth c LX D cy ad cX11_doesAll RX11 7 2 (some .boolean)) : ∀ (w : Nat) (x1 : Int32) (x2 : Int32) (x3 : Int32) (x4 : Int32) (x5 : Int32) (M : Mem), BL p l e (rmL 2) s m args below meth c LX D cy ad 7 (QI LX D cy ad) 3 [(0, .ref (ad 0)), (1, .int x1), (2, .int x2), (3, .int x3), (4, .int x4), (5, .int x5)] [] M (loopN (bX11_doesAll_3 n0) (fun _ _ _ _ _ _ => none) w x1 x2 x3 x4 x5 M) := by
  intro w
  induction w with
  | zero =>
    intros
    exact b_none
  | succ w ih =>
    intro x1 x2 x3 x4 x5 M
    exact tbX11_doesAll_3 n0 hO _ ih x1 x2 x3 x4 x5 M
theorem tfX11_doesAll_3 (n0 : Nat) (hO : OKc p (rmL 2) s m args meth c LX D cy ad cX11_doesAll RX11 7 2 (some .boolean)) (x1 : Int32) (x2 : Int32) (x3 : Int32) (x4 : Int32) (x5 : Int32) (M : Mem) : BL p l e (rmL 2) s m args below meth c LX D cy ad 7 (QI LX D cy ad) 3 [(0, .ref (ad 0)), (1, .int x1), (2, .int x2), (3, .int x3), (4, .int x4), (5, .int x5)] [] M (fX11_doesAll_3 n0 x1 x2 x3 x4 x5 M) := lX11_doesAll_3 n0 hO n0 x1 x2 x3 x4 x5 M
theorem tfX11_doesAll (n0 : Nat) (hO : OKc p (rmL 2) s m args meth c LX D cy ad cX11_doesAll RX11 7 2 (some .boolean)) (x1 : Int32) (x2 : Int32) (x3 : Int32) (x4 : Int32) (M : Mem) : BL p l e (rmL 2) s m args below meth c LX D cy ad 7 (QI LX D cy ad) 0 [(0, .ref (ad 0)), (1, .int x1), (2, .int x2), (3, .int x3), (4, .int x4)] [] M (fX11_doesAll n0 x1 x2 x3 x4 M) := by
  unfold fX11_doesAll
  refine b_iconst hO dX11_doesAll_0 ic_i_0 ?_
  refine b_istore hO dX11_doesAll_1 (by decide) (lv' := [(5, .int _), (0, .ref _), (1, .int _), (2, .int _), (3, .int _), (4, .int _)]) rfl ?_
  refine b_sub [1, 2, 3, 4, 5, 0] rfl ?_
  exact tfX11_doesAll_3 n0 hO _ _ _ _ _ _
theorem ctX11_doesAll (n0 : Nat) (hI : Inj LX ad) (x1 : Int32) (x2 : Int32) (x3 : Int32) (x4 : Int32) (M : Mem) : CT l LX D cy ad yX11_doesAll cX11_doesAll 7 (some .boolean) 2 (QI LX D cy ad) [.ref (ad 0), .int x1, .int x2, .int x3, .int x4] M (fX11_doesAll n0 x1 x2 x3 x4 M) :=
  CT.mk LXok hI (by decide) (Nat.le_of_ble_eq_true rfl) (fun hO => tfX11_doesAll n0 hO x1 x2 x3 x4 M)
/-! X11_doesWithout -/
def fX11_doesWithout (n0 : Nat) (x1 : Int32) (x2 : Int32) (x3 : Int32) (x4 : Int32) (M : Mem) : Option (Int32 × Mem) :=
  (fX11_lookAt n0 x1 M).bind fun z2 =>
  (fX1_foresee n0 26 x4 z2).bind fun z19 =>
  (fX11_doesAll n0 x1 x2 x3 z19.1 z19.2).bind fun z22 =>
  if z22.1 = 0 ∨ z22.1 = 1 then some (z22.1, z22.2) else none
theorem tfX11_doesWithout (n0 : Nat) (hO : OKc p (rmL 6) s m args meth c LX D cy ad cX11_doesWithout RX11 5 6 (some .boolean)) (x1 : Int32) (x2 : Int32) (x3 : Int32) (x4 : Int32) (M : Mem) : BL p l e (rmL 6) s m args below meth c LX D cy ad 5 (QI LX D cy ad) 0 [(0, .ref (ad 0)), (1, .int x1), (2, .int x2), (3, .int x3), (4, .int x4)] [] M (fX11_doesWithout n0 x1 x2 x3 x4 M) := by
  unfold fX11_doesWithout
  refine b_aload_n hO dX11_doesWithout_0 0 rfl rfl ?_
  refine b_iload_n hO dX11_doesWithout_1 1 rfl rfl ?_
  refine b_callVV hO mdX11_lookAt mvX11_lookAt w948 (ci := 11) rfl rfl (by decide) kLX_0 (As := [.int _]) (st := []) (ctX11_lookAt n0 hO.2.2.2.2.2.2.1 _ _) (Nat.le_of_ble_eq_true rfl) rfl rfl (Nat.le_of_ble_eq_true rfl) dX11_doesWithout_2 (fun z2 => ?_)
  refine b_aload_n hO dX11_doesWithout_5 0 rfl rfl ?_
  refine b_iload_n hO dX11_doesWithout_6 1 rfl rfl ?_
  refine b_iload_n hO dX11_doesWithout_7 2 rfl rfl ?_
  refine b_iload_n hO dX11_doesWithout_8 3 rfl rfl ?_
  refine b_aload_n hO dX11_doesWithout_9 0 rfl rfl ?_
  refine b_get hO flX11_40 kLX_0 (v := .ref (ad 7)) rfl dX11_doesWithout_10 ?_
  refine b_aload_n hO dX11_doesWithout_13 0 rfl rfl ?_
  refine b_get hO flX11_72 kLX_0 (v := .ref (ad 26)) rfl dX11_doesWithout_14 ?_
  refine b_iload hO dX11_doesWithout_17 4 rfl ?_
  refine b_callVI hO mdX1_foresee mvX1_foresee w970 (ci := 1) rfl rfl (by decide) kLX_7 (As := [.ref _, .int _]) (st := [.int _, .int _, .int _, .ref _]) (ctX1_foresee n0 _ kLX_26 hO.2.2.2.2.2.2.1 _ _) (Nat.le_of_ble_eq_true rfl) rfl rfl (Nat.le_of_ble_eq_true rfl) dX11_doesWithout_19 (fun z19 => ?_)
  refine b_callVI hO mdX11_doesAll mvX11_doesAll w999 (ci := 11) rfl rfl (by decide) kLX_0 (As := [.int _, .int _, .int _, .int _]) (st := []) (ctX11_doesAll n0 hO.2.2.2.2.2.2.1 _ _ _ _ _) (Nat.le_of_ble_eq_true rfl) rfl rfl (Nat.le_of_ble_eq_true rfl) dX11_doesWithout_22 (fun z22 => ?_)
  exact b_zret hO dX11_doesWithout_25
theorem ctX11_doesWithout (n0 : Nat) (hI : Inj LX ad) (x1 : Int32) (x2 : Int32) (x3 : Int32) (x4 : Int32) (M : Mem) : CT l LX D cy ad yX11_doesWithout cX11_doesWithout 5 (some .boolean) 6 (QI LX D cy ad) [.ref (ad 0), .int x1, .int x2, .int x3, .int x4] M (fX11_doesWithout n0 x1 x2 x3 x4 M) :=
  CT.mk LXok hI (by decide) (Nat.le_of_ble_eq_true rfl) (fun hO => tfX11_doesWithout n0 hO x1 x2 x3 x4 M)
/-! X11_planNothing -/
def bX11_planNothing_28 (n0 : Nat) (k28 : Int32 → Int32 → Int32 → Mem → Option (Int32 × Mem)) (x1 : Int32) (x2 : Int32) (x3 : Int32) (M : Mem) : Option (Int32 × Mem) :=
  if (gI M (128 * (gR M 1) + 5)) ≤ x3 then
    some ((1 : Int32), M)
  else
    (fX11_doesWithout n0 x3 x1 (1 : Int32) x2 M).bind fun z44 =>
    if z44.1 = 0 then
      some ((0 : Int32), z44.2)
    else
      k28 x1 x2 (x3 + (1 : Int32)) z44.2
def fX11_planNothing_28 (n0 : Nat) : Int32 → Int32 → Int32 → Mem → Option (Int32 × Mem) := loopN (bX11_planNothing_28 n0) (fun _ _ _ _ => none) n0
def bX11_planNothing_2 (n0 : Nat) (k2 : Int32 → Int32 → Int32 → Mem → Option (Int32 × Mem)) (x1 : Int32) (x2 : Int32) (x3 : Int32) (M : Mem) : Option (Int32 × Mem) :=
  if (gI M (128 * (gR M 1) + 5)) ≤ x3 then
    fX11_planNothing_28 n0 x1 x2 (0 : Int32) M
  else
    if oob x3 5 then none else
    bnd (sA M 28 (Int32.toNatClampNeg x3) (-1 : Int32)) fun M19 =>
    k2 x1 x2 (x3 + (1 : Int32)) M19
def fX11_planNothing_2 (n0 : Nat) : Int32 → Int32 → Int32 → Mem → Option (Int32 × Mem) := loopN (bX11_planNothing_2 n0) (fun _ _ _ _ => none) n0
def fX11_planNothing (n0 : Nat) (x1 : Int32) (x2 : Int32) (M : Mem) : Option (Int32 × Mem) :=
  fX11_planNothing_2 n0 x1 x2 (0 : Int32) M
theorem tbX11_planNothing_28 (n0 : Nat) (hO : OKc p (rmL 7) s m args meth c LX D cy ad cX11_planNothing RX11 4 7 (some .boolean)) (k28 : Int32 → Int32 → Int32 → Mem → Option (Int32 × Mem)) (hk28 : ∀ (x1 : Int32) (x2 : Int32) (x3 : Int32) (M : Mem), BL p l e (rmL 7) s m args below meth c LX D cy ad 4 (QI LX D cy ad) 28 [(0, .ref (ad 0)), (1, .int x1), (2, .int x2), (3, .int x3)] [] M (k28 x1 x2 x3 M)) (x1 : Int32) (x2 : Int32) (x3 : Int32) (M : Mem) : BL p l e (rmL 7) s m args below meth c LX D cy ad 4 (QI LX D cy ad) 28 [(0, .ref (ad 0)), (1, .int x1), (2, .int x2), (3, .int x3)] [] M (bX11_planNothing_28 n0 k28 x1 x2 x3 M) := by
  unfold bX11_planNothing_28
  refine b_iload_n hO dX11_planNothing_28 3 rfl rfl ?_
  refine b_aload_n hO dX11_planNothing_29 0 rfl rfl ?_
  refine b_getR hO flX11_19 kLX_0 (id := 1) rfl rfl (rk := 9) rfl (by decide) dX11_planNothing_30 (fun hg1 => ?_)
  refine b_get hO flX11_139 hg1 (v := .int (gI _ (128 * (gR M 1) + 5))) rfl dX11_planNothing_33 ?_
  refine b_icmp_ge hO dX11_planNothing_36 (tgt := 58) (by decide) ?_ ?_
  · refine b_iconst hO dX11_planNothing_58 ic_i_1 ?_
    exact b_zretc hO (Or.inr rfl) dX11_planNothing_59
  · refine b_aload_n hO dX11_planNothing_39 0 rfl rfl ?_
    refine b_iload_n hO dX11_planNothing_40 3 rfl rfl ?_
    refine b_iload_n hO dX11_planNothing_41 1 rfl rfl ?_
    refine b_iconst hO dX11_planNothing_42 ic_i_1 ?_
    refine b_iload_n hO dX11_planNothing_43 2 rfl rfl ?_
    refine b_callVI hO mdX11_doesWithout mvX11_doesWithout w995 (ci := 11) rfl rfl (by decide) kLX_0 (As := [.int _, .int _, .int _, .int _]) (st := []) (ctX11_doesWithout n0 hO.2.2.2.2.2.2.1 _ _ _ _ _) (Nat.le_of_ble_eq_true rfl) rfl rfl (Nat.le_of_ble_eq_true rfl) dX11_planNothing_44 (fun z44 => ?_)
    refine b_if_ne hO dX11_planNothing_47 (tgt := 52) (by decide) ?_ ?_
    · refine b_iinc hO dX11_planNothing_52 3 rfl ic_i_1 (by decide) (lv' := [(3, .int _), (0, .ref _), (1, .int _), (2, .int _)]) rfl ?_
      refine b_goto hO dX11_planNothing_55 (tgt := 28) (by decide) ?_
      refine b_sub [1, 2, 3, 0] rfl ?_
      exact hk28 _ _ _ _
    · refine b_iconst hO dX11_planNothing_50 ic_i_0 ?_
      exact b_zretc hO (Or.inl rfl) dX11_planNothing_51
theorem lX11_planNothing_28 (n0 : Nat) (hO : OKc p (rmL 7) s m args meth c LX D cy ad cX11_planNothing RX11 4 7 (some .boolean)) : ∀ (w : Nat) (x1 : Int32) (x2 : Int32) (x3 : Int32) (M : Mem), BL p l e (rmL 7) s m args below meth c LX D cy ad 4 (QI LX D cy ad) 28 [(0, .ref (ad 0)), (1, .int x1), (2, .int x2), (3, .int x3)] [] M (loopN (bX11_planNothing_28 n0) (fun _ _ _ _ => none) w x1 x2 x3 M) := by
  intro w
  induction w with
  | zero =>
    intros
    exact b_none
  | succ w ih =>
    intro x1 x2 x3 M
    exact tbX11_planNothing_28 n0 hO _ ih x1 x2 x3 M
theorem tfX11_planNothing_28 (n0 : Nat) (hO : OKc p (rmL 7) s m args meth c LX D cy ad cX11_planNothing RX11 4 7 (some .boolean)) (x1 : Int32) (x2 : Int32) (x3 : Int32) (M : Mem) : BL p l e (rmL 7) s m args below meth c LX D cy ad 4 (QI LX D cy ad) 28 [(0, .ref (ad 0)), (1, .int x1), (2, .int x2), (3, .int x3)] [] M (fX11_planNothing_28 n0 x1 x2 x3 M) := lX11_planNothing_28 n0 hO n0 x1 x2 x3 M
theorem tbX11_planNothing_2 (n0 : Nat) (hO : OKc p (rmL 7) s m args meth c LX D cy ad cX11_planNothing RX11 4 7 (some .boolean)) (k2 : Int32 → Int32 → Int32 → Mem → Option (Int32 × Mem)) (hk2 : ∀ (x1 : Int32) (x2 : Int32) (x3 : Int32) (M : Mem), BL p l e (rmL 7) s m args below meth c LX D cy ad 4 (QI LX D cy ad) 2 [(0, .ref (ad 0)), (1, .int x1), (2, .int x2), (3, .int x3)] [] M (k2 x1 x2 x3 M)) (x1 : Int32) (x2 : Int32) (x3 : Int32) (M : Mem) : BL p l e (rmL 7) s m args below meth c LX D cy ad 4 (QI LX D cy ad) 2 [(0, .ref (ad 0)), (1, .int x1), (2, .int x2), (3, .int x3)] [] M (bX11_planNothing_2 n0 k2 x1 x2 x3 M) := by
  unfold bX11_planNothing_2
  refine b_iload_n hO dX11_planNothing_2 3 rfl rfl ?_
  refine b_aload_n hO dX11_planNothing_3 0 rfl rfl ?_
  refine b_getR hO flX11_19 kLX_0 (id := 1) rfl rfl (rk := 9) rfl (by decide) dX11_planNothing_4 (fun hg1 => ?_)
  refine b_get hO flX11_139 hg1 (v := .int (gI _ (128 * (gR M 1) + 5))) rfl dX11_planNothing_7 ?_
  refine b_icmp_ge hO dX11_planNothing_10 (tgt := 26) (by decide) ?_ ?_
  · refine b_iconst hO dX11_planNothing_26 ic_i_0 ?_
    refine b_istore_n hO dX11_planNothing_27 rfl (by decide) (lv' := [(3, .int _), (0, .ref _), (1, .int _), (2, .int _)]) rfl ?_
    refine b_sub [1, 2, 3, 0] rfl ?_
    exact tfX11_planNothing_28 n0 hO _ _ _ _
  · refine b_aload_n hO dX11_planNothing_13 0 rfl rfl ?_
    refine b_get hO flX11_79 kLX_0 (v := .ref (ad 28)) rfl dX11_planNothing_14 ?_
    refine b_iload_n hO dX11_planNothing_17 3 rfl rfl ?_
    refine b_iconst hO dX11_planNothing_18 ic_i_m1 ?_
    refine b_iast hO kLX_28 (n := 5) rfl dX11_planNothing_19 ?_
    refine b_bnd (fun M19 => ?_)
    refine b_iinc hO dX11_planNothing_20 3 rfl ic_i_1 (by decide) (lv' := [(3, .int _), (0, .ref _), (1, .int _), (2, .int _)]) rfl ?_
    refine b_goto hO dX11_planNothing_23 (tgt := 2) (by decide) ?_
    refine b_sub [1, 2, 3, 0] rfl ?_
    exact hk2 _ _ _ _
theorem lX11_planNothing_2 (n0 : Nat) (hO : OKc p (rmL 7) s m args meth c LX D cy ad cX11_planNothing RX11 4 7 (some .boolean)) : ∀ (w : Nat) (x1 : Int32) (x2 : Int32) (x3 : Int32) (M : Mem), BL p l e (rmL 7) s m args below meth c LX D cy ad 4 (QI LX D cy ad) 2 [(0, .ref (ad 0)), (1, .int x1), (2, .int x2), (3, .int x3)] [] M (loopN (bX11_planNothing_2 n0) (fun _ _ _ _ => none) w x1 x2 x3 M) := by
  intro w
  induction w with
  | zero =>
    intros
    exact b_none
  | succ w ih =>
    intro x1 x2 x3 M
    exact tbX11_planNothing_2 n0 hO _ ih x1 x2 x3 M
theorem tfX11_planNothing_2 (n0 : Nat) (hO : OKc p (rmL 7) s m args meth c LX D cy ad cX11_planNothing RX11 4 7 (some .boolean)) (x1 : Int32) (x2 : Int32) (x3 : Int32) (M : Mem) : BL p l e (rmL 7) s m args below meth c LX D cy ad 4 (QI LX D cy ad) 2 [(0, .ref (ad 0)), (1, .int x1), (2, .int x2), (3, .int x3)] [] M (fX11_planNothing_2 n0 x1 x2 x3 M) := lX11_planNothing_2 n0 hO n0 x1 x2 x3 M
theorem tfX11_planNothing (n0 : Nat) (hO : OKc p (rmL 7) s m args meth c LX D cy ad cX11_planNothing RX11 4 7 (some .boolean)) (x1 : Int32) (x2 : Int32) (M : Mem) : BL p l e (rmL 7) s m args below meth c LX D cy ad 4 (QI LX D cy ad) 0 [(0, .ref (ad 0)), (1, .int x1), (2, .int x2)] [] M (fX11_planNothing n0 x1 x2 M) := by
  unfold fX11_planNothing
  refine b_iconst hO dX11_planNothing_0 ic_i_0 ?_
  refine b_istore_n hO dX11_planNothing_1 rfl (by decide) (lv' := [(3, .int _), (0, .ref _), (1, .int _), (2, .int _)]) rfl ?_
  refine b_sub [1, 2, 3, 0] rfl ?_
  exact tfX11_planNothing_2 n0 hO _ _ _ _
theorem ctX11_planNothing (n0 : Nat) (hI : Inj LX ad) (x1 : Int32) (x2 : Int32) (M : Mem) : CT l LX D cy ad yX11_planNothing cX11_planNothing 4 (some .boolean) 7 (QI LX D cy ad) [.ref (ad 0), .int x1, .int x2] M (fX11_planNothing n0 x1 x2 M) :=
  CT.mk LXok hI (by decide) (Nat.le_of_ble_eq_true rfl) (fun hO => tfX11_planNothing n0 hO x1 x2 M)
/-! X11_findGiving -/
def bX11_findGiving_3 (n0 : Nat) (k3 : Int32 → Int32 → Int32 → Int32 → Mem → Option (Int32 × Mem)) (x1 : Int32) (x2 : Int32) (x3 : Int32) (x4 : Int32) (M : Mem) : Option (Int32 × Mem) :=
  if (gI M (128 * (gR M 1) + 1)) ≤ x4 then
    some ((-1 : Int32), M)
  else
    (fX1_hold n0 x1 x4 (0 : Int32) (gI M 1281) M).bind fun z30 =>
    (fX1_foresee n0 26 x3 z30).bind fun z46 =>
    (fX11_doesAll n0 x1 x2 (0 : Int32) z46.1 z46.2).bind fun z49 =>
    if z49.1 = 0 then
      k3 x1 x2 x3 (x4 + (1 : Int32)) z49.2
    else
      some (x4, z49.2)
def fX11_findGiving_3 (n0 : Nat) : Int32 → Int32 → Int32 → Int32 → Mem → Option (Int32 × Mem) := loopN (bX11_findGiving_3 n0) (fun _ _ _ _ _ => none) n0
def fX11_findGiving (n0 : Nat) (x1 : Int32) (x2 : Int32) (x3 : Int32) (M : Mem) : Option (Int32 × Mem) :=
  fX11_findGiving_3 n0 x1 x2 x3 (0 : Int32) M
theorem tbX11_findGiving_3 (n0 : Nat) (hO : OKc p (rmL 6) s m args meth c LX D cy ad cX11_findGiving RX11 5 6 (some .int)) (k3 : Int32 → Int32 → Int32 → Int32 → Mem → Option (Int32 × Mem)) (hk3 : ∀ (x1 : Int32) (x2 : Int32) (x3 : Int32) (x4 : Int32) (M : Mem), BL p l e (rmL 6) s m args below meth c LX D cy ad 5 (QI LX D cy ad) 3 [(0, .ref (ad 0)), (1, .int x1), (2, .int x2), (3, .int x3), (4, .int x4)] [] M (k3 x1 x2 x3 x4 M)) (x1 : Int32) (x2 : Int32) (x3 : Int32) (x4 : Int32) (M : Mem) : BL p l e (rmL 6) s m args below meth c LX D cy ad 5 (QI LX D cy ad) 3 [(0, .ref (ad 0)), (1, .int x1), (2, .int x2), (3, .int x3), (4, .int x4)] [] M (bX11_findGiving_3 n0 k3 x1 x2 x3 x4 M) := by
  unfold bX11_findGiving_3
  refine b_iload hO dX11_findGiving_3 4 rfl ?_
  refine b_aload_n hO dX11_findGiving_5 0 rfl rfl ?_
  refine b_getR hO flX11_19 kLX_0 (id := 1) rfl rfl (rk := 9) rfl (by decide) dX11_findGiving_6 (fun hg1 => ?_)
  refine b_get hO flX11_136 hg1 (v := .int (gI _ (128 * (gR M 1) + 1))) rfl dX11_findGiving_9 ?_
  refine b_icmp_ge hO dX11_findGiving_12 (tgt := 64) (by decide) ?_ ?_
  · refine b_iconst hO dX11_findGiving_64 ic_i_m1 ?_
    exact b_iret hO dX11_findGiving_65
  · refine b_aload_n hO dX11_findGiving_15 0 rfl rfl ?_
    refine b_get hO flX11_40 kLX_0 (v := .ref (ad 7)) rfl dX11_findGiving_16 ?_
    refine b_iload_n hO dX11_findGiving_19 1 rfl rfl ?_
    refine b_iload hO dX11_findGiving_20 4 rfl ?_
    refine b_iconst hO dX11_findGiving_22 ic_i_0 ?_
    refine b_aload_n hO dX11_findGiving_23 0 rfl rfl ?_
    refine b_get hO flX11_47 kLX_0 (v := .ref (ad 10)) rfl dX11_findGiving_24 ?_
    refine b_get hO flX11_148 kLX_10 (v := .int (gI _ 1281)) rfl dX11_findGiving_27 ?_
    refine b_callVV hO mdX1_hold mvX1_hold w952 (ci := 1) rfl rfl (by decide) kLX_7 (As := [.int _, .int _, .int _, .int _]) (st := []) (ctX1_hold n0 hO.2.2.2.2.2.2.1 _ _ _ _ _) (Nat.le_of_ble_eq_true rfl) rfl rfl (Nat.le_of_ble_eq_true rfl) dX11_findGiving_30 (fun z30 => ?_)
    refine b_aload_n hO dX11_findGiving_33 0 rfl rfl ?_
    refine b_iload_n hO dX11_findGiving_34 1 rfl rfl ?_
    refine b_iload_n hO dX11_findGiving_35 2 rfl rfl ?_
    refine b_iconst hO dX11_findGiving_36 ic_i_0 ?_
    refine b_aload_n hO dX11_findGiving_37 0 rfl rfl ?_
    refine b_get hO flX11_40 kLX_0 (v := .ref (ad 7)) rfl dX11_findGiving_38 ?_
    refine b_aload_n hO dX11_findGiving_41 0 rfl rfl ?_
    refine b_get hO flX11_72 kLX_0 (v := .ref (ad 26)) rfl dX11_findGiving_42 ?_
    refine b_iload_n hO dX11_findGiving_45 3 rfl rfl ?_
    refine b_callVI hO mdX1_foresee mvX1_foresee w970 (ci := 1) rfl rfl (by decide) kLX_7 (As := [.ref _, .int _]) (st := [.int _, .int _, .int _, .ref _]) (ctX1_foresee n0 _ kLX_26 hO.2.2.2.2.2.2.1 _ _) (Nat.le_of_ble_eq_true rfl) rfl rfl (Nat.le_of_ble_eq_true rfl) dX11_findGiving_46 (fun z46 => ?_)
    refine b_callVI hO mdX11_doesAll mvX11_doesAll w999 (ci := 11) rfl rfl (by decide) kLX_0 (As := [.int _, .int _, .int _, .int _]) (st := []) (ctX11_doesAll n0 hO.2.2.2.2.2.2.1 _ _ _ _ _) (Nat.le_of_ble_eq_true rfl) rfl rfl (Nat.le_of_ble_eq_true rfl) dX11_findGiving_49 (fun z49 => ?_)
    refine b_if_eq hO dX11_findGiving_52 (tgt := 58) (by decide) ?_ ?_
    · refine b_iinc hO dX11_findGiving_58 4 rfl ic_i_1 (by decide) (lv' := [(4, .int _), (0, .ref _), (1, .int _), (2, .int _), (3, .int _)]) rfl ?_
      refine b_goto hO dX11_findGiving_61 (tgt := 3) (by decide) ?_
      refine b_sub [1, 2, 3, 4, 0] rfl ?_
      exact hk3 _ _ _ _ _
    · refine b_iload hO dX11_findGiving_55 4 rfl ?_
      exact b_iret hO dX11_findGiving_57
theorem lX11_findGiving_3 (n0 : Nat) (hO : OKc p (rmL 6) s m args meth c LX D cy ad cX11_findGiving RX11 5 6 (some .int)) : ∀ (w : Nat) (x1 : Int32) (x2 : Int32) (x3 : Int32) (x4 : Int32) (M : Mem), BL p l e (rmL 6) s m args below meth c LX D cy ad 5 (QI LX D cy ad) 3 [(0, .ref (ad 0)), (1, .int x1), (2, .int x2), (3, .int x3), (4, .int x4)] [] M (loopN (bX11_findGiving_3 n0) (fun _ _ _ _ _ => none) w x1 x2 x3 x4 M) := by
  intro w
  induction w with
  | zero =>
    intros
    exact b_none
  | succ w ih =>
    intro x1 x2 x3 x4 M
    exact tbX11_findGiving_3 n0 hO _ ih x1 x2 x3 x4 M
theorem tfX11_findGiving_3 (n0 : Nat) (hO : OKc p (rmL 6) s m args meth c LX D cy ad cX11_findGiving RX11 5 6 (some .int)) (x1 : Int32) (x2 : Int32) (x3 : Int32) (x4 : Int32) (M : Mem) : BL p l e (rmL 6) s m args below meth c LX D cy ad 5 (QI LX D cy ad) 3 [(0, .ref (ad 0)), (1, .int x1), (2, .int x2), (3, .int x3), (4, .int x4)] [] M (fX11_findGiving_3 n0 x1 x2 x3 x4 M) := lX11_findGiving_3 n0 hO n0 x1 x2 x3 x4 M
theorem tfX11_findGiving (n0 : Nat) (hO : OKc p (rmL 6) s m args meth c LX D cy ad cX11_findGiving RX11 5 6 (some .int)) (x1 : Int32) (x2 : Int32) (x3 : Int32) (M : Mem) : BL p l e (rmL 6) s m args below meth c LX D cy ad 5 (QI LX D cy ad) 0 [(0, .ref (ad 0)), (1, .int x1), (2, .int x2), (3, .int x3)] [] M (fX11_findGiving n0 x1 x2 x3 M) := by
  unfold fX11_findGiving
  refine b_iconst hO dX11_findGiving_0 ic_i_0 ?_
  refine b_istore hO dX11_findGiving_1 (by decide) (lv' := [(4, .int _), (0, .ref _), (1, .int _), (2, .int _), (3, .int _)]) rfl ?_
  refine b_sub [1, 2, 3, 4, 0] rfl ?_
  exact tfX11_findGiving_3 n0 hO _ _ _ _ _
theorem ctX11_findGiving (n0 : Nat) (hI : Inj LX ad) (x1 : Int32) (x2 : Int32) (x3 : Int32) (M : Mem) : CT l LX D cy ad yX11_findGiving cX11_findGiving 5 (some .int) 6 (QI LX D cy ad) [.ref (ad 0), .int x1, .int x2, .int x3] M (fX11_findGiving n0 x1 x2 x3 M) :=
  CT.mk LXok hI (by decide) (Nat.le_of_ble_eq_true rfl) (fun hO => tfX11_findGiving n0 hO x1 x2 x3 M)
/-! X11_planNeeded -/
def fX11_planNeeded_49 (n0 : Nat) (k2 : Int32 → Int32 → Int32 → Mem → Option (Int32 × Mem)) (x1 : Int32) (x2 : Int32) (x3 : Int32) (M : Mem) : Option (Int32 × Mem) :=
  k2 x1 x2 (x3 + (1 : Int32)) M
def bX11_planNeeded_2 (n0 : Nat) (k2 : Int32 → Int32 → Int32 → Mem → Option (Int32 × Mem)) (x1 : Int32) (x2 : Int32) (x3 : Int32) (M : Mem) : Option (Int32 × Mem) :=
  if (gI M (128 * (gR M 1) + 5)) ≤ x3 then
    some ((1 : Int32), M)
  else
    (fX11_doesWithout n0 x3 x1 (0 : Int32) x2 M).bind fun z18 =>
    if z18.1 = 0 then
      (fX11_findGiving n0 x3 x1 x2 z18.2).bind fun z33 =>
      if oob x3 5 then none else
      bnd (sA z33.2 28 (Int32.toNatClampNeg x3) z33.1) fun M36 =>
      if oob x3 5 then none else
      if (gA M36 28 (Int32.toNatClampNeg x3)) = (-1 : Int32) then
        some ((0 : Int32), M36)
      else
        fX11_planNeeded_49 n0 k2 x1 x2 x3 M36
    else
      fX11_planNeeded_49 n0 k2 x1 x2 x3 z18.2
def fX11_planNeeded_2 (n0 : Nat) : Int32 → Int32 → Int32 → Mem → Option (Int32 × Mem) := loopN (bX11_planNeeded_2 n0) (fun _ _ _ _ => none) n0
def fX11_planNeeded (n0 : Nat) (x1 : Int32) (x2 : Int32) (M : Mem) : Option (Int32 × Mem) :=
  fX11_planNeeded_2 n0 x1 x2 (0 : Int32) M
theorem tfX11_planNeeded_49 (n0 : Nat) (hO : OKc p (rmL 7) s m args meth c LX D cy ad cX11_planNeeded RX11 4 7 (some .boolean)) (k2 : Int32 → Int32 → Int32 → Mem → Option (Int32 × Mem)) (hk2 : ∀ (x1 : Int32) (x2 : Int32) (x3 : Int32) (M : Mem), BL p l e (rmL 7) s m args below meth c LX D cy ad 4 (QI LX D cy ad) 2 [(0, .ref (ad 0)), (1, .int x1), (2, .int x2), (3, .int x3)] [] M (k2 x1 x2 x3 M)) (x1 : Int32) (x2 : Int32) (x3 : Int32) (M : Mem) : BL p l e (rmL 7) s m args below meth c LX D cy ad 4 (QI LX D cy ad) 49 [(0, .ref (ad 0)), (1, .int x1), (2, .int x2), (3, .int x3)] [] M (fX11_planNeeded_49 n0 k2 x1 x2 x3 M) := by
  unfold fX11_planNeeded_49
  refine b_iinc hO dX11_planNeeded_49 3 rfl ic_i_1 (by decide) (lv' := [(3, .int _), (0, .ref _), (1, .int _), (2, .int _)]) rfl ?_
  refine b_goto hO dX11_planNeeded_52 (tgt := 2) (by decide) ?_
  refine b_sub [1, 2, 3, 0] rfl ?_
  exact hk2 _ _ _ _
theorem tbX11_planNeeded_2 (n0 : Nat) (hO : OKc p (rmL 7) s m args meth c LX D cy ad cX11_planNeeded RX11 4 7 (some .boolean)) (k2 : Int32 → Int32 → Int32 → Mem → Option (Int32 × Mem)) (hk2 : ∀ (x1 : Int32) (x2 : Int32) (x3 : Int32) (M : Mem), BL p l e (rmL 7) s m args below meth c LX D cy ad 4 (QI LX D cy ad) 2 [(0, .ref (ad 0)), (1, .int x1), (2, .int x2), (3, .int x3)] [] M (k2 x1 x2 x3 M)) (x1 : Int32) (x2 : Int32) (x3 : Int32) (M : Mem) : BL p l e (rmL 7) s m args below meth c LX D cy ad 4 (QI LX D cy ad) 2 [(0, .ref (ad 0)), (1, .int x1), (2, .int x2), (3, .int x3)] [] M (bX11_planNeeded_2 n0 k2 x1 x2 x3 M) := by
  unfold bX11_planNeeded_2
  refine b_iload_n hO dX11_planNeeded_2 3 rfl rfl ?_
  refine b_aload_n hO dX11_planNeeded_3 0 rfl rfl ?_
  refine b_getR hO flX11_19 kLX_0 (id := 1) rfl rfl (rk := 9) rfl (by decide) dX11_planNeeded_4 (fun hg1 => ?_)
  refine b_get hO flX11_139 hg1 (v := .int (gI _ (128 * (gR M 1) + 5))) rfl dX11_planNeeded_7 ?_
  refine b_icmp_ge hO dX11_planNeeded_10 (tgt := 55) (by decide) ?_ ?_
  · refine b_iconst hO dX11_planNeeded_55 ic_i_1 ?_
    exact b_zretc hO (Or.inr rfl) dX11_planNeeded_56
  · refine b_aload_n hO dX11_planNeeded_13 0 rfl rfl ?_
    refine b_iload_n hO dX11_planNeeded_14 3 rfl rfl ?_
    refine b_iload_n hO dX11_planNeeded_15 1 rfl rfl ?_
    refine b_iconst hO dX11_planNeeded_16 ic_i_0 ?_
    refine b_iload_n hO dX11_planNeeded_17 2 rfl rfl ?_
    refine b_callVI hO mdX11_doesWithout mvX11_doesWithout w995 (ci := 11) rfl rfl (by decide) kLX_0 (As := [.int _, .int _, .int _, .int _]) (st := []) (ctX11_doesWithout n0 hO.2.2.2.2.2.2.1 _ _ _ _ _) (Nat.le_of_ble_eq_true rfl) rfl rfl (Nat.le_of_ble_eq_true rfl) dX11_planNeeded_18 (fun z18 => ?_)
    refine b_if_ne hO dX11_planNeeded_21 (tgt := 49) (by decide) ?_ ?_
    · exact tfX11_planNeeded_49 n0 hO k2 hk2 _ _ _ _
    · refine b_aload_n hO dX11_planNeeded_24 0 rfl rfl ?_
      refine b_get hO flX11_79 kLX_0 (v := .ref (ad 28)) rfl dX11_planNeeded_25 ?_
      refine b_iload_n hO dX11_planNeeded_28 3 rfl rfl ?_
      refine b_aload_n hO dX11_planNeeded_29 0 rfl rfl ?_
      refine b_iload_n hO dX11_planNeeded_30 3 rfl rfl ?_
      refine b_iload_n hO dX11_planNeeded_31 1 rfl rfl ?_
      refine b_iload_n hO dX11_planNeeded_32 2 rfl rfl ?_
      refine b_callVI hO mdX11_findGiving mvX11_findGiving w1011 (ci := 11) rfl rfl (by decide) kLX_0 (As := [.int _, .int _, .int _]) (st := [.int _, .ref _]) (ctX11_findGiving n0 hO.2.2.2.2.2.2.1 _ _ _ _) (Nat.le_of_ble_eq_true rfl) rfl rfl (Nat.le_of_ble_eq_true rfl) dX11_planNeeded_33 (fun z33 => ?_)
      refine b_iast hO kLX_28 (n := 5) rfl dX11_planNeeded_36 ?_
      refine b_bnd (fun M36 => ?_)
      refine b_aload_n hO dX11_planNeeded_37 0 rfl rfl ?_
      refine b_get hO flX11_79 kLX_0 (v := .ref (ad 28)) rfl dX11_planNeeded_38 ?_
      refine b_iload_n hO dX11_planNeeded_41 3 rfl rfl ?_
      refine b_iald hO kLX_28 (n := 5) rfl dX11_planNeeded_42 ?_
      refine b_iconst hO dX11_planNeeded_43 ic_i_m1 ?_
      refine b_icmp_ne hO dX11_planNeeded_44 (tgt := 49) (by decide) ?_ ?_
      · exact tfX11_planNeeded_49 n0 hO k2 hk2 _ _ _ _
      · refine b_iconst hO dX11_planNeeded_47 ic_i_0 ?_
        exact b_zretc hO (Or.inl rfl) dX11_planNeeded_48
theorem lX11_planNeeded_2 (n0 : Nat) (hO : OKc p (rmL 7) s m args meth c LX D cy ad cX11_planNeeded RX11 4 7 (some .boolean)) : ∀ (w : Nat) (x1 : Int32) (x2 : Int32) (x3 : Int32) (M : Mem), BL p l e (rmL 7) s m args below meth c LX D cy ad 4 (QI LX D cy ad) 2 [(0, .ref (ad 0)), (1, .int x1), (2, .int x2), (3, .int x3)] [] M (loopN (bX11_planNeeded_2 n0) (fun _ _ _ _ => none) w x1 x2 x3 M) := by
  intro w
  induction w with
  | zero =>
    intros
    exact b_none
  | succ w ih =>
    intro x1 x2 x3 M
    exact tbX11_planNeeded_2 n0 hO _ ih x1 x2 x3 M
theorem tfX11_planNeeded_2 (n0 : Nat) (hO : OKc p (rmL 7) s m args meth c LX D cy ad cX11_planNeeded RX11 4 7 (some .boolean)) (x1 : Int32) (x2 : Int32) (x3 : Int32) (M : Mem) : BL p l e (rmL 7) s m args below meth c LX D cy ad 4 (QI LX D cy ad) 2 [(0, .ref (ad 0)), (1, .int x1), (2, .int x2), (3, .int x3)] [] M (fX11_planNeeded_2 n0 x1 x2 x3 M) := lX11_planNeeded_2 n0 hO n0 x1 x2 x3 M
theorem tfX11_planNeeded (n0 : Nat) (hO : OKc p (rmL 7) s m args meth c LX D cy ad cX11_planNeeded RX11 4 7 (some .boolean)) (x1 : Int32) (x2 : Int32) (M : Mem) : BL p l e (rmL 7) s m args below meth c LX D cy ad 4 (QI LX D cy ad) 0 [(0, .ref (ad 0)), (1, .int x1), (2, .int x2)] [] M (fX11_planNeeded n0 x1 x2 M) := by
  unfold fX11_planNeeded
  refine b_iconst hO dX11_planNeeded_0 ic_i_0 ?_
  refine b_istore_n hO dX11_planNeeded_1 rfl (by decide) (lv' := [(3, .int _), (0, .ref _), (1, .int _), (2, .int _)]) rfl ?_
  refine b_sub [1, 2, 3, 0] rfl ?_
  exact tfX11_planNeeded_2 n0 hO _ _ _ _
theorem ctX11_planNeeded (n0 : Nat) (hI : Inj LX ad) (x1 : Int32) (x2 : Int32) (M : Mem) : CT l LX D cy ad yX11_planNeeded cX11_planNeeded 4 (some .boolean) 7 (QI LX D cy ad) [.ref (ad 0), .int x1, .int x2] M (fX11_planNeeded n0 x1 x2 M) :=
  CT.mk LXok hI (by decide) (Nat.le_of_ble_eq_true rfl) (fun hO => tfX11_planNeeded n0 hO x1 x2 M)
end
end
section
section
variable {p : Program} {l : Launch} {e : Env} {s : State} {m : MethodId} {args : Array Value} {below : List Frame} {meth : Method} {c : Code} {D : va_G} {cy : Nat → ClassId} {ad : Nat → Nat} {dd : Nat}

/-! X11_countPlanned -/
def fX11_countPlanned_28 (n0 : Nat) (k4 : Int32 → Int32 → Mem → Option (Int32 × Mem)) (x1 : Int32) (x2 : Int32) (M : Mem) : Option (Int32 × Mem) :=
  k4 x1 (x2 + (1 : Int32)) M
def bX11_countPlanned_4 (n0 : Nat) (k4 : Int32 → Int32 → Mem → Option (Int32 × Mem)) (x1 : Int32) (x2 : Int32) (M : Mem) : Option (Int32 × Mem) :=
  if (gI M (128 * (gR M 1) + 5)) ≤ x2 then
    some (x1, M)
  else
    if oob x2 5 then none else
    if (gA M 28 (Int32.toNatClampNeg x2)) = (-1 : Int32) then
      fX11_countPlanned_28 n0 k4 x1 x2 M
    else
      fX11_countPlanned_28 n0 k4 (x1 + (1 : Int32)) x2 M
def fX11_countPlanned_4 (n0 : Nat) : Int32 → Int32 → Mem → Option (Int32 × Mem) := loopN (bX11_countPlanned_4 n0) (fun _ _ _ => none) n0
def fX11_countPlanned (n0 : Nat) (M : Mem) : Option (Int32 × Mem) :=
  fX11_countPlanned_4 n0 (0 : Int32) (0 : Int32) M
theorem tfX11_countPlanned_28 (n0 : Nat) (hO : OKc p (rmL 1) s m args meth c LX D cy ad cX11_countPlanned RX11 3 1 (some .int)) (k4 : Int32 → Int32 → Mem → Option (Int32 × Mem)) (hk4 : ∀ (x1 : Int32) (x2 : Int32) (M : Mem), BL p l e (rmL 1) s m args below meth c LX D cy ad 3 (QI LX D cy ad) 4 [(0, .ref (ad 0)), (1, .int x1), (2, .int x2)] [] M (k4 x1 x2 M)) (x1 : Int32) (x2 : Int32) (M : Mem) : BL p l e (rmL 1) s m args below meth c LX D cy ad 3 (QI LX D cy ad) 28 [(0, .ref (ad 0)), (1, .int x1), (2, .int x2)] [] M (fX11_countPlanned_28 n0 k4 x1 x2 M) := by
  unfold fX11_countPlanned_28
  refine b_iinc hO dX11_countPlanned_28 2 rfl ic_i_1 (by decide) (lv' := [(2, .int _), (0, .ref _), (1, .int _)]) rfl ?_
  refine b_goto hO dX11_countPlanned_31 (tgt := 4) (by decide) ?_
  refine b_sub [1, 2, 0] rfl ?_
  exact hk4 _ _ _
theorem tbX11_countPlanned_4 (n0 : Nat) (hO : OKc p (rmL 1) s m args meth c LX D cy ad cX11_countPlanned RX11 3 1 (some .int)) (k4 : Int32 → Int32 → Mem → Option (Int32 × Mem)) (hk4 : ∀ (x1 : Int32) (x2 : Int32) (M : Mem), BL p l e (rmL 1) s m args below meth c LX D cy ad 3 (QI LX D cy ad) 4 [(0, .ref (ad 0)), (1, .int x1), (2, .int x2)] [] M (k4 x1 x2 M)) (x1 : Int32) (x2 : Int32) (M : Mem) : BL p l e (rmL 1) s m args below meth c LX D cy ad 3 (QI LX D cy ad) 4 [(0, .ref (ad 0)), (1, .int x1), (2, .int x2)] [] M (bX11_countPlanned_4 n0 k4 x1 x2 M) := by
  unfold bX11_countPlanned_4
  refine b_iload_n hO dX11_countPlanned_4 2 rfl rfl ?_
  refine b_aload_n hO dX11_countPlanned_5 0 rfl rfl ?_
  refine b_getR hO flX11_19 kLX_0 (id := 1) rfl rfl (rk := 9) rfl (by decide) dX11_countPlanned_6 (fun hg1 => ?_)
  refine b_get hO flX11_139 hg1 (v := .int (gI _ (128 * (gR M 1) + 5))) rfl dX11_countPlanned_9 ?_
  refine b_icmp_ge hO dX11_countPlanned_12 (tgt := 34) (by decide) ?_ ?_
  · refine b_iload_n hO dX11_countPlanned_34 1 rfl rfl ?_
    exact b_iret hO dX11_countPlanned_35
  · refine b_aload_n hO dX11_countPlanned_15 0 rfl rfl ?_
    refine b_get hO flX11_79 kLX_0 (v := .ref (ad 28)) rfl dX11_countPlanned_16 ?_
    refine b_iload_n hO dX11_countPlanned_19 2 rfl rfl ?_
    refine b_iald hO kLX_28 (n := 5) rfl dX11_countPlanned_20 ?_
    refine b_iconst hO dX11_countPlanned_21 ic_i_m1 ?_
    refine b_icmp_eq hO dX11_countPlanned_22 (tgt := 28) (by decide) ?_ ?_
    · exact tfX11_countPlanned_28 n0 hO k4 hk4 _ _ _
    · refine b_iinc hO dX11_countPlanned_25 1 rfl ic_i_1 (by decide) (lv' := [(1, .int _), (0, .ref _), (2, .int _)]) rfl ?_
      refine b_sub [1, 0, 2] rfl ?_
      exact tfX11_countPlanned_28 n0 hO k4 hk4 _ _ _
theorem lX11_countPlanned_4 (n0 : Nat) (hO : OKc p (rmL 1) s m args meth c LX D cy ad cX11_countPlanned RX11 3 1 (some .int)) : ∀ (w : Nat) (x1 : Int32) (x2 : Int32) (M : Mem), BL p l e (rmL 1) s m args below meth c LX D cy ad 3 (QI LX D cy ad) 4 [(0, .ref (ad 0)), (1, .int x1), (2, .int x2)] [] M (loopN (bX11_countPlanned_4 n0) (fun _ _ _ => none) w x1 x2 M) := by
  intro w
  induction w with
  | zero =>
    intros
    exact b_none
  | succ w ih =>
    intro x1 x2 M
    exact tbX11_countPlanned_4 n0 hO _ ih x1 x2 M
theorem tfX11_countPlanned_4 (n0 : Nat) (hO : OKc p (rmL 1) s m args meth c LX D cy ad cX11_countPlanned RX11 3 1 (some .int)) (x1 : Int32) (x2 : Int32) (M : Mem) : BL p l e (rmL 1) s m args below meth c LX D cy ad 3 (QI LX D cy ad) 4 [(0, .ref (ad 0)), (1, .int x1), (2, .int x2)] [] M (fX11_countPlanned_4 n0 x1 x2 M) := lX11_countPlanned_4 n0 hO n0 x1 x2 M
theorem tfX11_countPlanned (n0 : Nat) (hO : OKc p (rmL 1) s m args meth c LX D cy ad cX11_countPlanned RX11 3 1 (some .int)) (M : Mem) : BL p l e (rmL 1) s m args below meth c LX D cy ad 3 (QI LX D cy ad) 0 [(0, .ref (ad 0))] [] M (fX11_countPlanned n0 M) := by
  unfold fX11_countPlanned
  refine b_iconst hO dX11_countPlanned_0 ic_i_0 ?_
  refine b_istore_n hO dX11_countPlanned_1 rfl (by decide) (lv' := [(1, .int _), (0, .ref _)]) rfl ?_
  refine b_iconst hO dX11_countPlanned_2 ic_i_0 ?_
  refine b_istore_n hO dX11_countPlanned_3 rfl (by decide) (lv' := [(2, .int _), (1, .int _), (0, .ref _)]) rfl ?_
  refine b_sub [2, 1, 0] rfl ?_
  exact tfX11_countPlanned_4 n0 hO _ _ _
theorem ctX11_countPlanned (n0 : Nat) (hI : Inj LX ad) (M : Mem) : CT l LX D cy ad yX11_countPlanned cX11_countPlanned 3 (some .int) 1 (QI LX D cy ad) [.ref (ad 0)] M (fX11_countPlanned n0 M) :=
  CT.mk LXok hI (by decide) (Nat.le_of_ble_eq_true rfl) (fun hO => tfX11_countPlanned n0 hO M)
/-! X11_planAnywhere -/
def bX11_planAnywhere_10 (n0 : Nat) (k10 : Int32 → Int32 → Int32 → Mem → Option (Int32 × Mem)) (x1 : Int32) (x2 : Int32) (x3 : Int32) (M : Mem) : Option (Int32 × Mem) :=
  if x3 < 0 then
    some ((0 : Int32), M)
  else
    (fX11_findGiving n0 x3 x1 x2 M).bind fun z23 =>
    if oob x3 5 then none else
    bnd (sA z23.2 28 (Int32.toNatClampNeg x3) z23.1) fun M26 =>
    if oob x3 5 then none else
    if (gA M26 28 (Int32.toNatClampNeg x3)) = (-1 : Int32) then
      k10 x1 x2 (x3 + (-1 : Int32)) M26
    else
      some ((1 : Int32), M26)
def fX11_planAnywhere_10 (n0 : Nat) : Int32 → Int32 → Int32 → Mem → Option (Int32 × Mem) := loopN (bX11_planAnywhere_10 n0) (fun _ _ _ _ => none) n0
def fX11_planAnywhere (n0 : Nat) (x1 : Int32) (x2 : Int32) (M : Mem) : Option (Int32 × Mem) :=
  bnd ((gI M (128 * (gR M 1) + 5)) - (1 : Int32)) fun x3_9 =>
  fX11_planAnywhere_10 n0 x1 x2 x3_9 M
theorem tbX11_planAnywhere_10 (n0 : Nat) (hO : OKc p (rmL 7) s m args meth c LX D cy ad cX11_planAnywhere RX11 4 7 (some .boolean)) (k10 : Int32 → Int32 → Int32 → Mem → Option (Int32 × Mem)) (hk10 : ∀ (x1 : Int32) (x2 : Int32) (x3 : Int32) (M : Mem), BL p l e (rmL 7) s m args below meth c LX D cy ad 4 (QI LX D cy ad) 10 [(0, .ref (ad 0)), (1, .int x1), (2, .int x2), (3, .int x3)] [] M (k10 x1 x2 x3 M)) (x1 : Int32) (x2 : Int32) (x3 : Int32) (M : Mem) : BL p l e (rmL 7) s m args below meth c LX D cy ad 4 (QI LX D cy ad) 10 [(0, .ref (ad 0)), (1, .int x1), (2, .int x2), (3, .int x3)] [] M (bX11_planAnywhere_10 n0 k10 x1 x2 x3 M) := by
  unfold bX11_planAnywhere_10
  refine b_iload_n hO dX11_planAnywhere_10 3 rfl rfl ?_
  refine b_if_lt hO dX11_planAnywhere_11 (tgt := 45) (by decide) ?_ ?_
  · refine b_iconst hO dX11_planAnywhere_45 ic_i_0 ?_
    exact b_zretc hO (Or.inl rfl) dX11_planAnywhere_46
  · refine b_aload_n hO dX11_planAnywhere_14 0 rfl rfl ?_
    refine b_get hO flX11_79 kLX_0 (v := .ref (ad 28)) rfl dX11_planAnywhere_15 ?_
    refine b_iload_n hO dX11_planAnywhere_18 3 rfl rfl ?_
    refine b_aload_n hO dX11_planAnywhere_19 0 rfl rfl ?_
    refine b_iload_n hO dX11_planAnywhere_20 3 rfl rfl ?_
    refine b_iload_n hO dX11_planAnywhere_21 1 rfl rfl ?_
    refine b_iload_n hO dX11_planAnywhere_22 2 rfl rfl ?_
    refine b_callVI hO mdX11_findGiving mvX11_findGiving w1011 (ci := 11) rfl rfl (by decide) kLX_0 (As := [.int _, .int _, .int _]) (st := [.int _, .ref _]) (ctX11_findGiving n0 hO.2.2.2.2.2.2.1 _ _ _ _) (Nat.le_of_ble_eq_true rfl) rfl rfl (Nat.le_of_ble_eq_true rfl) dX11_planAnywhere_23 (fun z23 => ?_)
    refine b_iast hO kLX_28 (n := 5) rfl dX11_planAnywhere_26 ?_
    refine b_bnd (fun M26 => ?_)
    refine b_aload_n hO dX11_planAnywhere_27 0 rfl rfl ?_
    refine b_get hO flX11_79 kLX_0 (v := .ref (ad 28)) rfl dX11_planAnywhere_28 ?_
    refine b_iload_n hO dX11_planAnywhere_31 3 rfl rfl ?_
    refine b_iald hO kLX_28 (n := 5) rfl dX11_planAnywhere_32 ?_
    refine b_iconst hO dX11_planAnywhere_33 ic_i_m1 ?_
    refine b_icmp_eq hO dX11_planAnywhere_34 (tgt := 39) (by decide) ?_ ?_
    · refine b_iinc hO dX11_planAnywhere_39 3 rfl ic_i_m1 (by decide) (lv' := [(3, .int _), (0, .ref _), (1, .int _), (2, .int _)]) rfl ?_
      refine b_goto hO dX11_planAnywhere_42 (tgt := 10) (by decide) ?_
      refine b_sub [1, 2, 3, 0] rfl ?_
      exact hk10 _ _ _ _
    · refine b_iconst hO dX11_planAnywhere_37 ic_i_1 ?_
      exact b_zretc hO (Or.inr rfl) dX11_planAnywhere_38
theorem lX11_planAnywhere_10 (n0 : Nat) (hO : OKc p (rmL 7) s m args meth c LX D cy ad cX11_planAnywhere RX11 4 7 (some .boolean)) : ∀ (w : Nat) (x1 : Int32) (x2 : Int32) (x3 : Int32) (M : Mem), BL p l e (rmL 7) s m args below meth c LX D cy ad 4 (QI LX D cy ad) 10 [(0, .ref (ad 0)), (1, .int x1), (2, .int x2), (3, .int x3)] [] M (loopN (bX11_planAnywhere_10 n0) (fun _ _ _ _ => none) w x1 x2 x3 M) := by
  intro w
  induction w with
  | zero =>
    intros
    exact b_none
  | succ w ih =>
    intro x1 x2 x3 M
    exact tbX11_planAnywhere_10 n0 hO _ ih x1 x2 x3 M
theorem tfX11_planAnywhere_10 (n0 : Nat) (hO : OKc p (rmL 7) s m args meth c LX D cy ad cX11_planAnywhere RX11 4 7 (some .boolean)) (x1 : Int32) (x2 : Int32) (x3 : Int32) (M : Mem) : BL p l e (rmL 7) s m args below meth c LX D cy ad 4 (QI LX D cy ad) 10 [(0, .ref (ad 0)), (1, .int x1), (2, .int x2), (3, .int x3)] [] M (fX11_planAnywhere_10 n0 x1 x2 x3 M) := lX11_planAnywhere_10 n0 hO n0 x1 x2 x3 M
theorem tfX11_planAnywhere (n0 : Nat) (hO : OKc p (rmL 7) s m args meth c LX D cy ad cX11_planAnywhere RX11 4 7 (some .boolean)) (x1 : Int32) (x2 : Int32) (M : Mem) : BL p l e (rmL 7) s m args below meth c LX D cy ad 4 (QI LX D cy ad) 0 [(0, .ref (ad 0)), (1, .int x1), (2, .int x2)] [] M (fX11_planAnywhere n0 x1 x2 M) := by
  unfold fX11_planAnywhere
  refine b_aload_n hO dX11_planAnywhere_0 0 rfl rfl ?_
  refine b_getR hO flX11_19 kLX_0 (id := 1) rfl rfl (rk := 9) rfl (by decide) dX11_planAnywhere_1 (fun hg1 => ?_)
  refine b_get hO flX11_139 hg1 (v := .int (gI _ (128 * (gR M 1) + 5))) rfl dX11_planAnywhere_4 ?_
  refine b_iconst hO dX11_planAnywhere_7 ic_i_1 ?_
  refine b_isub hO dX11_planAnywhere_8 ?_
  refine b_topI (fun x3_9 => ?_)
  refine b_istore_n hO dX11_planAnywhere_9 rfl (by decide) (lv' := [(3, .int _), (0, .ref _), (1, .int _), (2, .int _)]) rfl ?_
  refine b_sub [1, 2, 3, 0] rfl ?_
  exact tfX11_planAnywhere_10 n0 hO _ _ _ _
theorem ctX11_planAnywhere (n0 : Nat) (hI : Inj LX ad) (x1 : Int32) (x2 : Int32) (M : Mem) : CT l LX D cy ad yX11_planAnywhere cX11_planAnywhere 4 (some .boolean) 7 (QI LX D cy ad) [.ref (ad 0), .int x1, .int x2] M (fX11_planAnywhere n0 x1 x2 M) :=
  CT.mk LXok hI (by decide) (Nat.le_of_ble_eq_true rfl) (fun hO => tfX11_planAnywhere n0 hO x1 x2 M)
/-! X11_plan -/
def fX11_plan_94 (n0 : Nat) (x3 : Int32) (u0 : Int32) (M : Mem) : Option (Int32 × Mem) :=
  if u0 = 0 then
    some ((-1 : Int32), M)
  else
    if x3 = (-1 : Int32) then
      (fX11_countPlanned n0 M).bind fun z109 =>
      some (z109.1, z109.2)
    else
      if oob x3 5 then none else
      some ((gA M 28 (Int32.toNatClampNeg x3)), M)
def fX11_plan_89 (n0 : Nat) (x3 : Int32) (M : Mem) : Option (Int32 × Mem) :=
  fX11_plan_94 n0 x3 (1 : Int32) M
def fX11_plan_93 (n0 : Nat) (x3 : Int32) (M : Mem) : Option (Int32 × Mem) :=
  fX11_plan_94 n0 x3 (0 : Int32) M
def fX11_plan_55 (n0 : Nat) (x1 : Int32) (x2 : Int32) (x3 : Int32) (M : Mem) : Option (Int32 × Mem) :=
  (fX11_planNothing n0 x1 x2 M).bind fun z58 =>
  if z58.1 = 0 then
    (fX11_planNeeded n0 x1 x2 z58.2).bind fun z67 =>
    if z67.1 = 0 then
      fX11_plan_93 n0 x3 z67.2
    else
      (fX11_countPlanned n0 z67.2).bind fun z74 =>
      if 0 < z74.1 then
        fX11_plan_89 n0 x3 z74.2
      else
        (fX11_planAnywhere n0 x1 x2 z74.2).bind fun z83 =>
        if z83.1 = 0 then
          fX11_plan_93 n0 x3 z83.2
        else
          fX11_plan_89 n0 x3 z83.2
  else
    fX11_plan_89 n0 x3 z58.2
def fX11_plan (n0 : Nat) (x1 : Int32) (x2 : Int32) (x3 : Int32) (M : Mem) : Option (Int32 × Mem) :=
  if x1 < 0 then
    some ((-1 : Int32), M)
  else
    if ((1 : Int32) <<< ((gI M (128 * (gR M 1) + 12)) &&& 31)) ≤ x1 then
      some ((-1 : Int32), M)
    else
      if x2 < 0 then
        some ((-1 : Int32), M)
      else
        if (20 : Int32) < x2 then
          some ((-1 : Int32), M)
        else
          (fX11_isBeyond n0 x2 M).bind fun z29 =>
          if z29.1 = 0 then
            if x3 = (-1 : Int32) then
              fX11_plan_55 n0 x1 x2 x3 z29.2
            else
              (fX9_isCorner n0 (gR z29.2 1) x3 z29.2).bind fun z47 =>
              if z47.1 = 0 then
                some ((-1 : Int32), z47.2)
              else
                fX11_plan_55 n0 x1 x2 x3 z47.2
          else
            some ((-1 : Int32), z29.2)
theorem tfX11_plan_94 (n0 : Nat) (hO : OKc p (rmL 8) s m args meth c LX D cy ad cX11_plan RX11 5 8 (some .int)) (x3 : Int32) (u0 : Int32) (M : Mem) : BL p l e (rmL 8) s m args below meth c LX D cy ad 5 (QI LX D cy ad) 94 [(0, .ref (ad 0)), (3, .int x3)] [.int u0] M (fX11_plan_94 n0 x3 u0 M) := by
  unfold fX11_plan_94
  refine b_istore hO dX11_plan_94 (by decide) (lv' := [(4, .int _), (0, .ref _), (3, .int _)]) rfl ?_
  refine b_iload hO dX11_plan_96 0 rfl ?_
  refine b_if_ne hO dX11_plan_98 (tgt := 103) (by decide) ?_ ?_
  · refine b_iload_n hO dX11_plan_103 2 rfl rfl ?_
    refine b_iconst hO dX11_plan_104 ic_i_m1 ?_
    refine b_icmp_ne hO dX11_plan_105 (tgt := 115) (by decide) ?_ ?_
    · refine b_aload_n hO dX11_plan_115 1 rfl rfl ?_
      refine b_get hO flX11_79 kLX_0 (v := .ref (ad 28)) rfl dX11_plan_116 ?_
      refine b_iload_n hO dX11_plan_119 2 rfl rfl ?_
      refine b_iald hO kLX_28 (n := 5) rfl dX11_plan_120 ?_
      exact b_iret hO dX11_plan_121
    · refine b_aload_n hO dX11_plan_108 1 rfl rfl ?_
      refine b_callVI hO mdX11_countPlanned mvX11_countPlanned w1015 (ci := 11) rfl rfl (by decide) kLX_0 (As := []) (st := []) (ctX11_countPlanned n0 hO.2.2.2.2.2.2.1 _) (Nat.le_of_ble_eq_true rfl) rfl rfl (Nat.le_of_ble_eq_true rfl) dX11_plan_109 (fun z109 => ?_)
      refine b_goto hO dX11_plan_112 (tgt := 121) (by decide) ?_
      exact b_iret hO dX11_plan_121
  · refine b_iconst hO dX11_plan_101 ic_i_m1 ?_
    exact b_iret hO dX11_plan_102
theorem tfX11_plan_89 (n0 : Nat) (hO : OKc p (rmL 8) s m args meth c LX D cy ad cX11_plan RX11 5 8 (some .int)) (x3 : Int32) (M : Mem) : BL p l e (rmL 8) s m args below meth c LX D cy ad 5 (QI LX D cy ad) 89 [(0, .ref (ad 0)), (3, .int x3)] [] M (fX11_plan_89 n0 x3 M) := by
  unfold fX11_plan_89
  refine b_iconst hO dX11_plan_89 ic_i_1 ?_
  refine b_goto hO dX11_plan_90 (tgt := 94) (by decide) ?_
  exact tfX11_plan_94 n0 hO _ _ _
theorem tfX11_plan_93 (n0 : Nat) (hO : OKc p (rmL 8) s m args meth c LX D cy ad cX11_plan RX11 5 8 (some .int)) (x3 : Int32) (M : Mem) : BL p l e (rmL 8) s m args below meth c LX D cy ad 5 (QI LX D cy ad) 93 [(0, .ref (ad 0)), (3, .int x3)] [] M (fX11_plan_93 n0 x3 M) := by
  unfold fX11_plan_93
  refine b_iconst hO dX11_plan_93 ic_i_0 ?_
  exact tfX11_plan_94 n0 hO _ _ _
theorem tfX11_plan_55 (n0 : Nat) (hO : OKc p (rmL 8) s m args meth c LX D cy ad cX11_plan RX11 5 8 (some .int)) (x1 : Int32) (x2 : Int32) (x3 : Int32) (M : Mem) : BL p l e (rmL 8) s m args below meth c LX D cy ad 5 (QI LX D cy ad) 55 [(0, .ref (ad 0)), (1, .int x1), (2, .int x2), (3, .int x3)] [] M (fX11_plan_55 n0 x1 x2 x3 M) := by
  unfold fX11_plan_55
  refine b_aload_n hO dX11_plan_55 0 rfl rfl ?_
  refine b_iload_n hO dX11_plan_56 1 rfl rfl ?_
  refine b_iload_n hO dX11_plan_57 2 rfl rfl ?_
  refine b_callVI hO mdX11_planNothing mvX11_planNothing w991 (ci := 11) rfl rfl (by decide) kLX_0 (As := [.int _, .int _]) (st := []) (ctX11_planNothing n0 hO.2.2.2.2.2.2.1 _ _ _) (Nat.le_of_ble_eq_true rfl) rfl rfl (Nat.le_of_ble_eq_true rfl) dX11_plan_58 (fun z58 => ?_)
  refine b_if_ne hO dX11_plan_61 (tgt := 89) (by decide) ?_ ?_
  · refine b_sub [0, 3] rfl ?_
    exact tfX11_plan_89 n0 hO _ _
  · refine b_aload_n hO dX11_plan_64 0 rfl rfl ?_
    refine b_iload_n hO dX11_plan_65 1 rfl rfl ?_
    refine b_iload_n hO dX11_plan_66 2 rfl rfl ?_
    refine b_callVI hO mdX11_planNeeded mvX11_planNeeded w1007 (ci := 11) rfl rfl (by decide) kLX_0 (As := [.int _, .int _]) (st := []) (ctX11_planNeeded n0 hO.2.2.2.2.2.2.1 _ _ _) (Nat.le_of_ble_eq_true rfl) rfl rfl (Nat.le_of_ble_eq_true rfl) dX11_plan_67 (fun z67 => ?_)
    refine b_if_eq hO dX11_plan_70 (tgt := 93) (by decide) ?_ ?_
    · refine b_sub [0, 3] rfl ?_
      exact tfX11_plan_93 n0 hO _ _
    · refine b_aload_n hO dX11_plan_73 0 rfl rfl ?_
      refine b_callVI hO mdX11_countPlanned mvX11_countPlanned w1015 (ci := 11) rfl rfl (by decide) kLX_0 (As := []) (st := []) (ctX11_countPlanned n0 hO.2.2.2.2.2.2.1 _) (Nat.le_of_ble_eq_true rfl) rfl rfl (Nat.le_of_ble_eq_true rfl) dX11_plan_74 (fun z74 => ?_)
      refine b_if_gt hO dX11_plan_77 (tgt := 89) (by decide) ?_ ?_
      · refine b_sub [0, 3] rfl ?_
        exact tfX11_plan_89 n0 hO _ _
      · refine b_aload_n hO dX11_plan_80 0 rfl rfl ?_
        refine b_iload_n hO dX11_plan_81 1 rfl rfl ?_
        refine b_iload_n hO dX11_plan_82 2 rfl rfl ?_
        refine b_callVI hO mdX11_planAnywhere mvX11_planAnywhere w1019 (ci := 11) rfl rfl (by decide) kLX_0 (As := [.int _, .int _]) (st := []) (ctX11_planAnywhere n0 hO.2.2.2.2.2.2.1 _ _ _) (Nat.le_of_ble_eq_true rfl) rfl rfl (Nat.le_of_ble_eq_true rfl) dX11_plan_83 (fun z83 => ?_)
        refine b_if_eq hO dX11_plan_86 (tgt := 93) (by decide) ?_ ?_
        · refine b_sub [0, 3] rfl ?_
          exact tfX11_plan_93 n0 hO _ _
        · refine b_sub [0, 3] rfl ?_
          exact tfX11_plan_89 n0 hO _ _
theorem tfX11_plan (n0 : Nat) (hO : OKc p (rmL 8) s m args meth c LX D cy ad cX11_plan RX11 5 8 (some .int)) (x1 : Int32) (x2 : Int32) (x3 : Int32) (M : Mem) : BL p l e (rmL 8) s m args below meth c LX D cy ad 5 (QI LX D cy ad) 0 [(0, .ref (ad 0)), (1, .int x1), (2, .int x2), (3, .int x3)] [] M (fX11_plan n0 x1 x2 x3 M) := by
  unfold fX11_plan
  refine b_iload_n hO dX11_plan_0 1 rfl rfl ?_
  refine b_if_lt hO dX11_plan_1 (tgt := 35) (by decide) ?_ ?_
  · refine b_iconst hO dX11_plan_35 ic_i_m1 ?_
    exact b_iret hO dX11_plan_36
  · refine b_iload_n hO dX11_plan_4 1 rfl rfl ?_
    refine b_iconst hO dX11_plan_5 ic_i_1 ?_
    refine b_aload_n hO dX11_plan_6 0 rfl rfl ?_
    refine b_getR hO flX11_19 kLX_0 (id := 1) rfl rfl (rk := 9) rfl (by decide) dX11_plan_7 (fun hg1 => ?_)
    refine b_get hO flX11_145 hg1 (v := .int (gI _ (128 * (gR M 1) + 12))) rfl dX11_plan_10 ?_
    refine b_ishl hO dX11_plan_13 ?_
    refine b_icmp_ge hO dX11_plan_14 (tgt := 35) (by decide) ?_ ?_
    · refine b_iconst hO dX11_plan_35 ic_i_m1 ?_
      exact b_iret hO dX11_plan_36
    · refine b_iload_n hO dX11_plan_17 2 rfl rfl ?_
      refine b_if_lt hO dX11_plan_18 (tgt := 35) (by decide) ?_ ?_
      · refine b_iconst hO dX11_plan_35 ic_i_m1 ?_
        exact b_iret hO dX11_plan_36
      · refine b_iload_n hO dX11_plan_21 2 rfl rfl ?_
        refine b_bipush hO dX11_plan_22 ic_b_20 ?_
        refine b_icmp_gt hO dX11_plan_24 (tgt := 35) (by decide) ?_ ?_
        · refine b_iconst hO dX11_plan_35 ic_i_m1 ?_
          exact b_iret hO dX11_plan_36
        · refine b_aload_n hO dX11_plan_27 0 rfl rfl ?_
          refine b_iload_n hO dX11_plan_28 2 rfl rfl ?_
          refine b_callVI hO mdX11_isBeyond mvX11_isBeyond w962 (ci := 11) rfl rfl (by decide) kLX_0 (As := [.int _]) (st := []) (ctX11_isBeyond n0 hO.2.2.2.2.2.2.1 _ _) (Nat.le_of_ble_eq_true rfl) rfl rfl (Nat.le_of_ble_eq_true rfl) dX11_plan_29 (fun z29 => ?_)
          refine b_if_eq hO dX11_plan_32 (tgt := 37) (by decide) ?_ ?_
          · refine b_iload_n hO dX11_plan_37 3 rfl rfl ?_
            refine b_iconst hO dX11_plan_38 ic_i_m1 ?_
            refine b_icmp_eq hO dX11_plan_39 (tgt := 55) (by decide) ?_ ?_
            · exact tfX11_plan_55 n0 hO _ _ _ _
            · refine b_aload_n hO dX11_plan_42 0 rfl rfl ?_
              refine b_getR hO flX11_19 kLX_0 (id := 1) rfl rfl (rk := 9) rfl (by decide) dX11_plan_43 (fun hg2 => ?_)
              refine b_iload_n hO dX11_plan_46 3 rfl rfl ?_
              refine b_callVI hO mdX9_isCorner mvX9_isCorner w928 (ci := 9) rfl rfl (by decide) hg2 (As := [.int _]) (st := []) (ctX9_isCorner n0 _ hg2 hO.2.2.2.2.2.2.1 _ _) (Nat.le_of_ble_eq_true rfl) rfl rfl (Nat.le_of_ble_eq_true rfl) dX11_plan_47 (fun z47 => ?_)
              refine b_if_ne hO dX11_plan_50 (tgt := 55) (by decide) ?_ ?_
              · exact tfX11_plan_55 n0 hO _ _ _ _
              · refine b_iconst hO dX11_plan_53 ic_i_m1 ?_
                exact b_iret hO dX11_plan_54
          · refine b_iconst hO dX11_plan_35 ic_i_m1 ?_
            exact b_iret hO dX11_plan_36
theorem ctX11_plan (n0 : Nat) (hI : Inj LX ad) (x1 : Int32) (x2 : Int32) (x3 : Int32) (M : Mem) : CT l LX D cy ad yX11_plan cX11_plan 5 (some .int) 8 (QI LX D cy ad) [.ref (ad 0), .int x1, .int x2, .int x3] M (fX11_plan n0 x1 x2 x3 M) :=
  CT.mk LXok hI (by decide) (Nat.le_of_ble_eq_true rfl) (fun hO => tfX11_plan n0 hO x1 x2 x3 M)
/-! X11_countStaying -/
def bX11_countStaying_34 (n0 : Nat) (k34 : Int32 → Int32 → Mem → Option (Int32 × Mem)) (x3 : Int32) (x4 : Int32) (M : Mem) : Option (Int32 × Mem) :=
  if x3 < x4 then
    some (x3, M)
  else
    if oob x4 61 then none else
    if oob (0 : Int32) 61 then none else
    if (gA M 26 (Int32.toNatClampNeg x4)) = (gA M 26 (Int32.toNatClampNeg (0 : Int32))) then
      k34 x3 (x4 + (1 : Int32)) M
    else
      some ((x4 - (1 : Int32)), M)
def fX11_countStaying_34 (n0 : Nat) : Int32 → Int32 → Mem → Option (Int32 × Mem) := loopN (bX11_countStaying_34 n0) (fun _ _ _ => none) n0
def fX11_countStaying (n0 : Nat) (x1 : Int32) (x2 : Int32) (M : Mem) : Option (Int32 × Mem) :=
  (fX1_hold n0 x1 x2 (0 : Int32) (gI M 1281) M).bind fun z14 =>
  (fX1_foresee n0 26 (60 : Int32) z14).bind fun z27 =>
  fX11_countStaying_34 n0 z27.1 (1 : Int32) z27.2
theorem tbX11_countStaying_34 (n0 : Nat) (hO : OKc p (rmL 6) s m args meth c LX D cy ad cX11_countStaying RX11 5 6 (some .int)) (k34 : Int32 → Int32 → Mem → Option (Int32 × Mem)) (hk34 : ∀ (x3 : Int32) (x4 : Int32) (M : Mem), BL p l e (rmL 6) s m args below meth c LX D cy ad 5 (QI LX D cy ad) 34 [(0, .ref (ad 0)), (3, .int x3), (4, .int x4)] [] M (k34 x3 x4 M)) (x3 : Int32) (x4 : Int32) (M : Mem) : BL p l e (rmL 6) s m args below meth c LX D cy ad 5 (QI LX D cy ad) 34 [(0, .ref (ad 0)), (3, .int x3), (4, .int x4)] [] M (bX11_countStaying_34 n0 k34 x3 x4 M) := by
  unfold bX11_countStaying_34
  refine b_iload hO dX11_countStaying_34 2 rfl ?_
  refine b_iload_n hO dX11_countStaying_36 1 rfl rfl ?_
  refine b_icmp_gt hO dX11_countStaying_37 (tgt := 67) (by decide) ?_ ?_
  · refine b_iload_n hO dX11_countStaying_67 1 rfl rfl ?_
    exact b_iret hO dX11_countStaying_68
  · refine b_aload_n hO dX11_countStaying_40 0 rfl rfl ?_
    refine b_get hO flX11_72 kLX_0 (v := .ref (ad 26)) rfl dX11_countStaying_41 ?_
    refine b_iload hO dX11_countStaying_44 2 rfl ?_
    refine b_iald hO kLX_26 (n := 61) rfl dX11_countStaying_46 ?_
    refine b_aload_n hO dX11_countStaying_47 0 rfl rfl ?_
    refine b_get hO flX11_72 kLX_0 (v := .ref (ad 26)) rfl dX11_countStaying_48 ?_
    refine b_iconst hO dX11_countStaying_51 ic_i_0 ?_
    refine b_iald hO kLX_26 (n := 61) rfl dX11_countStaying_52 ?_
    refine b_icmp_eq hO dX11_countStaying_53 (tgt := 61) (by decide) ?_ ?_
    · refine b_iinc hO dX11_countStaying_61 2 rfl ic_i_1 (by decide) (lv' := [(4, .int _), (0, .ref _), (3, .int _)]) rfl ?_
      refine b_goto hO dX11_countStaying_64 (tgt := 34) (by decide) ?_
      refine b_sub [1, 2, 0] rfl ?_
      exact hk34 _ _ _
    · refine b_iload hO dX11_countStaying_56 2 rfl ?_
      refine b_iconst hO dX11_countStaying_58 ic_i_1 ?_
      refine b_isub hO dX11_countStaying_59 ?_
      exact b_iret hO dX11_countStaying_60
theorem lX11_countStaying_34 (n0 : Nat) (hO : OKc p (rmL 6) s m args meth c LX D cy ad cX11_countStaying RX11 5 6 (some .int)) : ∀ (w : Nat) (x3 : Int32) (x4 : Int32) (M : Mem), BL p l e (rmL 6) s m args below meth c LX D cy ad 5 (QI LX D cy ad) 34 [(0, .ref (ad 0)), (3, .int x3), (4, .int x4)] [] M (loopN (bX11_countStaying_34 n0) (fun _ _ _ => none) w x3 x4 M) := by
  intro w
  induction w with
  | zero =>
    intros
    exact b_none
  | succ w ih =>
    intro x3 x4 M
    exact tbX11_countStaying_34 n0 hO _ ih x3 x4 M
theorem tfX11_countStaying_34 (n0 : Nat) (hO : OKc p (rmL 6) s m args meth c LX D cy ad cX11_countStaying RX11 5 6 (some .int)) (x3 : Int32) (x4 : Int32) (M : Mem) : BL p l e (rmL 6) s m args below meth c LX D cy ad 5 (QI LX D cy ad) 34 [(0, .ref (ad 0)), (3, .int x3), (4, .int x4)] [] M (fX11_countStaying_34 n0 x3 x4 M) := lX11_countStaying_34 n0 hO n0 x3 x4 M
theorem tfX11_countStaying (n0 : Nat) (hO : OKc p (rmL 6) s m args meth c LX D cy ad cX11_countStaying RX11 5 6 (some .int)) (x1 : Int32) (x2 : Int32) (M : Mem) : BL p l e (rmL 6) s m args below meth c LX D cy ad 5 (QI LX D cy ad) 0 [(0, .ref (ad 0)), (1, .int x1), (2, .int x2)] [] M (fX11_countStaying n0 x1 x2 M) := by
  unfold fX11_countStaying
  refine b_aload_n hO dX11_countStaying_0 0 rfl rfl ?_
  refine b_get hO flX11_40 kLX_0 (v := .ref (ad 7)) rfl dX11_countStaying_1 ?_
  refine b_iload_n hO dX11_countStaying_4 1 rfl rfl ?_
  refine b_iload_n hO dX11_countStaying_5 2 rfl rfl ?_
  refine b_iconst hO dX11_countStaying_6 ic_i_0 ?_
  refine b_aload_n hO dX11_countStaying_7 0 rfl rfl ?_
  refine b_get hO flX11_47 kLX_0 (v := .ref (ad 10)) rfl dX11_countStaying_8 ?_
  refine b_get hO flX11_148 kLX_10 (v := .int (gI _ 1281)) rfl dX11_countStaying_11 ?_
  refine b_callVV hO mdX1_hold mvX1_hold w952 (ci := 1) rfl rfl (by decide) kLX_7 (As := [.int _, .int _, .int _, .int _]) (st := []) (ctX1_hold n0 hO.2.2.2.2.2.2.1 _ _ _ _ _) (Nat.le_of_ble_eq_true rfl) rfl rfl (Nat.le_of_ble_eq_true rfl) dX11_countStaying_14 (fun z14 => ?_)
  refine b_aload_n hO dX11_countStaying_17 0 rfl rfl ?_
  refine b_get hO flX11_40 kLX_0 (v := .ref (ad 7)) rfl dX11_countStaying_18 ?_
  refine b_aload_n hO dX11_countStaying_21 0 rfl rfl ?_
  refine b_get hO flX11_72 kLX_0 (v := .ref (ad 26)) rfl dX11_countStaying_22 ?_
  refine b_bipush hO dX11_countStaying_25 ic_b_60 ?_
  refine b_callVI hO mdX1_foresee mvX1_foresee w970 (ci := 1) rfl rfl (by decide) kLX_7 (As := [.ref _, .int _]) (st := []) (ctX1_foresee n0 _ kLX_26 hO.2.2.2.2.2.2.1 _ _) (Nat.le_of_ble_eq_true rfl) rfl rfl (Nat.le_of_ble_eq_true rfl) dX11_countStaying_27 (fun z27 => ?_)
  refine b_istore_n hO dX11_countStaying_30 rfl (by decide) (lv' := [(3, .int _), (0, .ref _), (1, .int _), (2, .int _)]) rfl ?_
  refine b_iconst hO dX11_countStaying_31 ic_i_1 ?_
  refine b_istore hO dX11_countStaying_32 (by decide) (lv' := [(4, .int _), (3, .int _), (0, .ref _), (1, .int _), (2, .int _)]) rfl ?_
  refine b_sub [2, 1, 0] rfl ?_
  exact tfX11_countStaying_34 n0 hO _ _ _
theorem ctX11_countStaying (n0 : Nat) (hI : Inj LX ad) (x1 : Int32) (x2 : Int32) (M : Mem) : CT l LX D cy ad yX11_countStaying cX11_countStaying 5 (some .int) 6 (QI LX D cy ad) [.ref (ad 0), .int x1, .int x2] M (fX11_countStaying n0 x1 x2 M) :=
  CT.mk LXok hI (by decide) (Nat.le_of_ble_eq_true rfl) (fun hO => tfX11_countStaying n0 hO x1 x2 M)
/-! X11_evening -/
def fX11_evening_75 (n0 : Nat) (k40 : Int32 → Int32 → Int32 → Int32 → Int32 → Mem → Option (Int32 × Mem)) (x1 : Int32) (x2 : Int32) (x3 : Int32) (x4 : Int32) (x5 : Int32) (M : Mem) : Option (Int32 × Mem) :=
  k40 x1 x2 x3 x4 (x5 + (1 : Int32)) M
def bX11_evening_40 (n0 : Nat) (k40 : Int32 → Int32 → Int32 → Int32 → Int32 → Mem → Option (Int32 × Mem)) (x1 : Int32) (x2 : Int32) (x3 : Int32) (x4 : Int32) (x5 : Int32) (M : Mem) : Option (Int32 × Mem) :=
  if (gI M (128 * (gR M 1) + 1)) ≤ x5 then
    if x2 = 0 then
      some (x3, M)
    else
      some (x4, M)
  else
    (fX11_countStaying n0 x1 x5 M).bind fun z56 =>
    if z56.1 ≤ x4 then
      fX11_evening_75 n0 k40 x1 x2 x3 x4 x5 z56.2
    else
      fX11_evening_75 n0 k40 x1 x2 x5 z56.1 x5 z56.2
def fX11_evening_40 (n0 : Nat) : Int32 → Int32 → Int32 → Int32 → Int32 → Mem → Option (Int32 × Mem) := loopN (bX11_evening_40 n0) (fun _ _ _ _ _ _ => none) n0
def fX11_evening (n0 : Nat) (x1 : Int32) (x2 : Int32) (M : Mem) : Option (Int32 × Mem) :=
  (fX9_isCorner n0 (gR M 1) x1 M).bind fun z5 =>
  if z5.1 = 0 then
    some ((-1 : Int32), z5.2)
  else
    if (gI z5.2 (128 * (gR z5.2 1) + 1)) = 0 then
      some ((-1 : Int32), z5.2)
    else
      if x2 < 0 then
        some ((-1 : Int32), z5.2)
      else
        if x2 ≤ (1 : Int32) then
          fX11_evening_40 n0 x1 x2 (0 : Int32) (-1 : Int32) (0 : Int32) z5.2
        else
          some ((-1 : Int32), z5.2)
theorem tfX11_evening_75 (n0 : Nat) (hO : OKc p (rmL 7) s m args meth c LX D cy ad cX11_evening RX11 7 7 (some .int)) (k40 : Int32 → Int32 → Int32 → Int32 → Int32 → Mem → Option (Int32 × Mem)) (hk40 : ∀ (x1 : Int32) (x2 : Int32) (x3 : Int32) (x4 : Int32) (x5 : Int32) (M : Mem), BL p l e (rmL 7) s m args below meth c LX D cy ad 7 (QI LX D cy ad) 40 [(0, .ref (ad 0)), (1, .int x1), (2, .int x2), (3, .int x3), (4, .int x4), (5, .int x5)] [] M (k40 x1 x2 x3 x4 x5 M)) (x1 : Int32) (x2 : Int32) (x3 : Int32) (x4 : Int32) (x5 : Int32) (M : Mem) : BL p l e (rmL 7) s m args below meth c LX D cy ad 7 (QI LX D cy ad) 75 [(0, .ref (ad 0)), (1, .int x1), (2, .int x2), (3, .int x3), (4, .int x4), (5, .int x5)] [] M (fX11_evening_75 n0 k40 x1 x2 x3 x4 x5 M) := by
  unfold fX11_evening_75
  refine b_iinc hO dX11_evening_75 5 rfl ic_i_1 (by decide) (lv' := [(5, .int _), (0, .ref _), (1, .int _), (2, .int _), (3, .int _), (4, .int _)]) rfl ?_
  refine b_goto hO dX11_evening_78 (tgt := 40) (by decide) ?_
  refine b_sub [1, 2, 3, 4, 5, 0] rfl ?_
  exact hk40 _ _ _ _ _ _
theorem tbX11_evening_40 (n0 : Nat) (hO : OKc p (rmL 7) s m args meth c LX D cy ad cX11_evening RX11 7 7 (some .int)) (k40 : Int32 → Int32 → Int32 → Int32 → Int32 → Mem → Option (Int32 × Mem)) (hk40 : ∀ (x1 : Int32) (x2 : Int32) (x3 : Int32) (x4 : Int32) (x5 : Int32) (M : Mem), BL p l e (rmL 7) s m args below meth c LX D cy ad 7 (QI LX D cy ad) 40 [(0, .ref (ad 0)), (1, .int x1), (2, .int x2), (3, .int x3), (4, .int x4), (5, .int x5)] [] M (k40 x1 x2 x3 x4 x5 M)) (x1 : Int32) (x2 : Int32) (x3 : Int32) (x4 : Int32) (x5 : Int32) (M : Mem) : BL p l e (rmL 7) s m args below meth c LX D cy ad 7 (QI LX D cy ad) 40 [(0, .ref (ad 0)), (1, .int x1), (2, .int x2), (3, .int x3), (4, .int x4), (5, .int x5)] [] M (bX11_evening_40 n0 k40 x1 x2 x3 x4 x5 M) := by
  unfold bX11_evening_40
  refine b_iload hO dX11_evening_40 5 rfl ?_
  refine b_aload_n hO dX11_evening_42 0 rfl rfl ?_
  refine b_getR hO flX11_19 kLX_0 (id := 1) rfl rfl (rk := 9) rfl (by decide) dX11_evening_43 (fun hg1 => ?_)
  refine b_get hO flX11_136 hg1 (v := .int (gI _ (128 * (gR M 1) + 1))) rfl dX11_evening_46 ?_
  refine b_icmp_ge hO dX11_evening_49 (tgt := 81) (by decide) ?_ ?_
  · refine b_iload_n hO dX11_evening_81 2 rfl rfl ?_
    refine b_if_ne hO dX11_evening_82 (tgt := 89) (by decide) ?_ ?_
    · refine b_iload hO dX11_evening_89 4 rfl ?_
      exact b_iret hO dX11_evening_91
    · refine b_iload_n hO dX11_evening_85 3 rfl rfl ?_
      refine b_goto hO dX11_evening_86 (tgt := 91) (by decide) ?_
      exact b_iret hO dX11_evening_91
  · refine b_aload_n hO dX11_evening_52 0 rfl rfl ?_
    refine b_iload_n hO dX11_evening_53 1 rfl rfl ?_
    refine b_iload hO dX11_evening_54 5 rfl ?_
    refine b_callVI hO mdX11_countStaying mvX11_countStaying w1027 (ci := 11) rfl rfl (by decide) kLX_0 (As := [.int _, .int _]) (st := []) (ctX11_countStaying n0 hO.2.2.2.2.2.2.1 _ _ _) (Nat.le_of_ble_eq_true rfl) rfl rfl (Nat.le_of_ble_eq_true rfl) dX11_evening_56 (fun z56 => ?_)
    refine b_istore hO dX11_evening_59 (by decide) (lv' := [(6, .int _), (0, .ref _), (1, .int _), (2, .int _), (3, .int _), (4, .int _), (5, .int _)]) rfl ?_
    refine b_iload hO dX11_evening_61 0 rfl ?_
    refine b_iload hO dX11_evening_63 5 rfl ?_
    refine b_icmp_le hO dX11_evening_65 (tgt := 75) (by decide) ?_ ?_
    · refine b_sub [1, 2, 3, 4, 5, 6] rfl ?_
      exact tfX11_evening_75 n0 hO k40 hk40 _ _ _ _ _ _
    · refine b_iload hO dX11_evening_68 6 rfl ?_
      refine b_istore_n hO dX11_evening_70 rfl (by decide) (lv' := [(3, .int _), (6, .int _), (0, .ref _), (1, .int _), (2, .int _), (4, .int _), (5, .int _)]) rfl ?_
      refine b_iload hO dX11_evening_71 1 rfl ?_
      refine b_istore hO dX11_evening_73 (by decide) (lv' := [(4, .int _), (3, .int _), (6, .int _), (0, .ref _), (1, .int _), (2, .int _), (5, .int _)]) rfl ?_
      refine b_sub [3, 4, 5, 1, 0, 6] rfl ?_
      exact tfX11_evening_75 n0 hO k40 hk40 _ _ _ _ _ _
theorem lX11_evening_40 (n0 : Nat) (hO : OKc p (rmL 7) s m args meth c LX D cy ad cX11_evening RX11 7 7 (some .int)) : ∀ (w : Nat) (x1 : Int32) (x2 : Int32) (x3 : Int32) (x4 : Int32) (x5 : Int32) (M : Mem), BL p l e (rmL 7) s m args below meth c LX D cy ad 7 (QI LX D cy ad) 40 [(0, .ref (ad 0)), (1, .int x1), (2, .int x2), (3, .int x3), (4, .int x4), (5, .int x5)] [] M (loopN (bX11_evening_40 n0) (fun _ _ _ _ _ _ => none) w x1 x2 x3 x4 x5 M) := by
  intro w
  induction w with
  | zero =>
    intros
    exact b_none
  | succ w ih =>
    intro x1 x2 x3 x4 x5 M
    exact tbX11_evening_40 n0 hO _ ih x1 x2 x3 x4 x5 M
theorem tfX11_evening_40 (n0 : Nat) (hO : OKc p (rmL 7) s m args meth c LX D cy ad cX11_evening RX11 7 7 (some .int)) (x1 : Int32) (x2 : Int32) (x3 : Int32) (x4 : Int32) (x5 : Int32) (M : Mem) : BL p l e (rmL 7) s m args below meth c LX D cy ad 7 (QI LX D cy ad) 40 [(0, .ref (ad 0)), (1, .int x1), (2, .int x2), (3, .int x3), (4, .int x4), (5, .int x5)] [] M (fX11_evening_40 n0 x1 x2 x3 x4 x5 M) := lX11_evening_40 n0 hO n0 x1 x2 x3 x4 x5 M
theorem tfX11_evening (n0 : Nat) (hO : OKc p (rmL 7) s m args meth c LX D cy ad cX11_evening RX11 7 7 (some .int)) (x1 : Int32) (x2 : Int32) (M : Mem) : BL p l e (rmL 7) s m args below meth c LX D cy ad 7 (QI LX D cy ad) 0 [(0, .ref (ad 0)), (1, .int x1), (2, .int x2)] [] M (fX11_evening n0 x1 x2 M) := by
  unfold fX11_evening
  refine b_aload_n hO dX11_evening_0 0 rfl rfl ?_
  refine b_getR hO flX11_19 kLX_0 (id := 1) rfl rfl (rk := 9) rfl (by decide) dX11_evening_1 (fun hg1 => ?_)
  refine b_iload_n hO dX11_evening_4 1 rfl rfl ?_
  refine b_callVI hO mdX9_isCorner mvX9_isCorner w928 (ci := 9) rfl rfl (by decide) hg1 (As := [.int _]) (st := []) (ctX9_isCorner n0 _ hg1 hO.2.2.2.2.2.2.1 _ _) (Nat.le_of_ble_eq_true rfl) rfl rfl (Nat.le_of_ble_eq_true rfl) dX11_evening_5 (fun z5 => ?_)
  refine b_if_eq hO dX11_evening_8 (tgt := 30) (by decide) ?_ ?_
  · refine b_iconst hO dX11_evening_30 ic_i_m1 ?_
    exact b_iret hO dX11_evening_31
  · refine b_aload_n hO dX11_evening_11 0 rfl rfl ?_
    refine b_getR hO flX11_19 kLX_0 (id := 1) rfl rfl (rk := 9) rfl (by decide) dX11_evening_12 (fun hg2 => ?_)
    refine b_get hO flX11_136 hg2 (v := .int (gI _ (128 * (gR z5.2 1) + 1))) rfl dX11_evening_15 ?_
    refine b_if_eq hO dX11_evening_18 (tgt := 30) (by decide) ?_ ?_
    · refine b_iconst hO dX11_evening_30 ic_i_m1 ?_
      exact b_iret hO dX11_evening_31
    · refine b_iload_n hO dX11_evening_21 2 rfl rfl ?_
      refine b_if_lt hO dX11_evening_22 (tgt := 30) (by decide) ?_ ?_
      · refine b_iconst hO dX11_evening_30 ic_i_m1 ?_
        exact b_iret hO dX11_evening_31
      · refine b_iload_n hO dX11_evening_25 2 rfl rfl ?_
        refine b_iconst hO dX11_evening_26 ic_i_1 ?_
        refine b_icmp_le hO dX11_evening_27 (tgt := 32) (by decide) ?_ ?_
        · refine b_iconst hO dX11_evening_32 ic_i_0 ?_
          refine b_istore_n hO dX11_evening_33 rfl (by decide) (lv' := [(3, .int _), (0, .ref _), (1, .int _), (2, .int _)]) rfl ?_
          refine b_iconst hO dX11_evening_34 ic_i_m1 ?_
          refine b_istore hO dX11_evening_35 (by decide) (lv' := [(4, .int _), (3, .int _), (0, .ref _), (1, .int _), (2, .int _)]) rfl ?_
          refine b_iconst hO dX11_evening_37 ic_i_0 ?_
          refine b_istore hO dX11_evening_38 (by decide) (lv' := [(5, .int _), (4, .int _), (3, .int _), (0, .ref _), (1, .int _), (2, .int _)]) rfl ?_
          refine b_sub [3, 4, 5, 2, 1, 0] rfl ?_
          exact tfX11_evening_40 n0 hO _ _ _ _ _ _
        · refine b_iconst hO dX11_evening_30 ic_i_m1 ?_
          exact b_iret hO dX11_evening_31
theorem ctX11_evening (n0 : Nat) (hI : Inj LX ad) (x1 : Int32) (x2 : Int32) (M : Mem) : CT l LX D cy ad yX11_evening cX11_evening 7 (some .int) 7 (QI LX D cy ad) [.ref (ad 0), .int x1, .int x2] M (fX11_evening n0 x1 x2 M) :=
  CT.mk LXok hI (by decide) (Nat.le_of_ble_eq_true rfl) (fun hO => tfX11_evening n0 hO x1 x2 M)
/-! X11_countRowsWithout -/
def fX11_countRowsWithout (n0 : Nat) (M : Mem) : Option (Int64 × Mem) :=
  bnd (((((100 : Int32) - (gI M (128 * (gR M 1) + 16)))).toInt64 * ((gI M (128 * (gR M 1) + 5))).toInt64) * ((gI M (128 * (gR M 1) + 1))).toInt64) fun y1_29 =>
  some ((y1_29 + ((((gI M (128 * (gR M 1) + 16))).toInt64 * (((gI M (128 * (gR M 1) + 5)) - (1 : Int32))).toInt64) * ((gI M (128 * (gR M 1) + 1))).toInt64)), M)
theorem tfX11_countRowsWithout (n0 : Nat) (hO : OKc p (rmL 1) s m args meth c LX D cy ad cX11_countRowsWithout RX11 3 1 (some .long)) (M : Mem) : BL p l e (rmL 1) s m args below meth c LX D cy ad 3 (QL LX D cy ad) 0 [(0, .ref (ad 0))] [] M (fX11_countRowsWithout n0 M) := by
  unfold fX11_countRowsWithout
  refine b_bipush hO dX11_countRowsWithout_0 ic_b_100 ?_
  refine b_aload_n hO dX11_countRowsWithout_2 0 rfl rfl ?_
  refine b_getR hO flX11_19 kLX_0 (id := 1) rfl rfl (rk := 9) rfl (by decide) dX11_countRowsWithout_3 (fun hg1 => ?_)
  refine b_get hO flX11_346 hg1 (v := .int (gI _ (128 * (gR M 1) + 16))) rfl dX11_countRowsWithout_6 ?_
  refine b_isub hO dX11_countRowsWithout_9 ?_
  refine b_i2l hO dX11_countRowsWithout_10 ?_
  refine b_aload_n hO dX11_countRowsWithout_11 0 rfl rfl ?_
  refine b_getR hO flX11_19 kLX_0 (id := 1) rfl rfl (rk := 9) rfl (by decide) dX11_countRowsWithout_12 (fun hg2 => ?_)
  refine b_get hO flX11_139 hg2 (v := .int (gI _ (128 * (gR M 1) + 5))) rfl dX11_countRowsWithout_15 ?_
  refine b_i2l hO dX11_countRowsWithout_18 ?_
  refine b_lmul hO dX11_countRowsWithout_19 ?_
  refine b_aload_n hO dX11_countRowsWithout_20 0 rfl rfl ?_
  refine b_getR hO flX11_19 kLX_0 (id := 1) rfl rfl (rk := 9) rfl (by decide) dX11_countRowsWithout_21 (fun hg3 => ?_)
  refine b_get hO flX11_136 hg3 (v := .int (gI _ (128 * (gR M 1) + 1))) rfl dX11_countRowsWithout_24 ?_
  refine b_i2l hO dX11_countRowsWithout_27 ?_
  refine b_lmul hO dX11_countRowsWithout_28 ?_
  refine b_topL (fun y1_29 => ?_)
  refine b_lstore_n hO dX11_countRowsWithout_29 rfl (by decide) (lv' := [(1, .long _), (0, .ref _)]) rfl ?_
  refine b_lload_n hO dX11_countRowsWithout_30 0 rfl rfl ?_
  refine b_aload_n hO dX11_countRowsWithout_31 1 rfl rfl ?_
  refine b_getR hO flX11_19 kLX_0 (id := 1) rfl rfl (rk := 9) rfl (by decide) dX11_countRowsWithout_32 (fun hg4 => ?_)
  refine b_get hO flX11_346 hg4 (v := .int (gI _ (128 * (gR M 1) + 16))) rfl dX11_countRowsWithout_35 ?_
  refine b_i2l hO dX11_countRowsWithout_38 ?_
  refine b_aload_n hO dX11_countRowsWithout_39 1 rfl rfl ?_
  refine b_getR hO flX11_19 kLX_0 (id := 1) rfl rfl (rk := 9) rfl (by decide) dX11_countRowsWithout_40 (fun hg5 => ?_)
  refine b_get hO flX11_139 hg5 (v := .int (gI _ (128 * (gR M 1) + 5))) rfl dX11_countRowsWithout_43 ?_
  refine b_iconst hO dX11_countRowsWithout_46 ic_i_1 ?_
  refine b_isub hO dX11_countRowsWithout_47 ?_
  refine b_i2l hO dX11_countRowsWithout_48 ?_
  refine b_lmul hO dX11_countRowsWithout_49 ?_
  refine b_aload_n hO dX11_countRowsWithout_50 1 rfl rfl ?_
  refine b_getR hO flX11_19 kLX_0 (id := 1) rfl rfl (rk := 9) rfl (by decide) dX11_countRowsWithout_51 (fun hg6 => ?_)
  refine b_get hO flX11_136 hg6 (v := .int (gI _ (128 * (gR M 1) + 1))) rfl dX11_countRowsWithout_54 ?_
  refine b_i2l hO dX11_countRowsWithout_57 ?_
  refine b_lmul hO dX11_countRowsWithout_58 ?_
  refine b_ladd hO dX11_countRowsWithout_59 ?_
  exact b_lret hO dX11_countRowsWithout_60
theorem ctX11_countRowsWithout (n0 : Nat) (hI : Inj LX ad) (M : Mem) : CT l LX D cy ad yX11_countRowsWithout cX11_countRowsWithout 3 (some .long) 1 (QL LX D cy ad) [.ref (ad 0)] M (fX11_countRowsWithout n0 M) :=
  CT.mk LXok hI (by decide) (Nat.le_of_ble_eq_true rfl) (fun hO => tfX11_countRowsWithout n0 hO M)
/-! X11_countRowsOfOne -/
def fX11_countRowsOfOne_88 (n0 : Nat) (k30 : Int32 → Int64 → Int32 → Mem → Option (Int64 × Mem)) (x1 : Int32) (y2 : Int64) (x4 : Int32) (M : Mem) : Option (Int64 × Mem) :=
  k30 x1 y2 (x4 + (1 : Int32)) M
def bX11_countRowsOfOne_30 (n0 : Nat) (k30 : Int32 → Int64 → Int32 → Mem → Option (Int64 × Mem)) (x1 : Int32) (y2 : Int64) (x4 : Int32) (M : Mem) : Option (Int64 × Mem) :=
  if (gI M (128 * (gR M 1) + 1)) ≤ x4 then
    some (y2, M)
  else
    (fX1_hold n0 (gI M 897) x4 (0 : Int32) (gI M 900) M).bind fun z63 =>
    (fX1_hourNow n0 z63).bind fun z70 =>
    if z70.1 = x1 then
      bnd (y2 + ((gI z70.2 (128 * (gR z70.2 1) + 16))).toInt64) fun y2_87 =>
      fX11_countRowsOfOne_88 n0 k30 x1 y2_87 x4 z70.2
    else
      fX11_countRowsOfOne_88 n0 k30 x1 y2 x4 z70.2
def fX11_countRowsOfOne_30 (n0 : Nat) : Int32 → Int64 → Int32 → Mem → Option (Int64 × Mem) := loopN (bX11_countRowsOfOne_30 n0) (fun _ _ _ _ => none) n0
def fX11_countRowsOfOne_26 (n0 : Nat) (x1 : Int32) (v0 : Int64) (M : Mem) : Option (Int64 × Mem) :=
  fX11_countRowsOfOne_30 n0 x1 v0 (0 : Int32) M
def fX11_countRowsOfOne (n0 : Nat) (x1 : Int32) (M : Mem) : Option (Int64 × Mem) :=
  (fX1_goOn n0 M).bind fun z4 =>
  (fX1_hourNow n0 z4).bind fun z11 =>
  if z11.1 = x1 then
    (fX11_countRowsWithout n0 z11.2).bind fun z19 =>
    fX11_countRowsOfOne_26 n0 x1 z19.1 z19.2
  else
    fX11_countRowsOfOne_26 n0 x1 (0 : Int64) z11.2
theorem tfX11_countRowsOfOne_88 (n0 : Nat) (hO : OKc p (rmL 5) s m args meth c LX D cy ad cX11_countRowsOfOne RX11 5 5 (some .long)) (k30 : Int32 → Int64 → Int32 → Mem → Option (Int64 × Mem)) (hk30 : ∀ (x1 : Int32) (y2 : Int64) (x4 : Int32) (M : Mem), BL p l e (rmL 5) s m args below meth c LX D cy ad 5 (QL LX D cy ad) 30 [(0, .ref (ad 0)), (1, .int x1), (2, .long y2), (4, .int x4)] [] M (k30 x1 y2 x4 M)) (x1 : Int32) (y2 : Int64) (x4 : Int32) (M : Mem) : BL p l e (rmL 5) s m args below meth c LX D cy ad 5 (QL LX D cy ad) 88 [(0, .ref (ad 0)), (1, .int x1), (2, .long y2), (4, .int x4)] [] M (fX11_countRowsOfOne_88 n0 k30 x1 y2 x4 M) := by
  unfold fX11_countRowsOfOne_88
  refine b_iinc hO dX11_countRowsOfOne_88 3 rfl ic_i_1 (by decide) (lv' := [(4, .int _), (0, .ref _), (1, .int _), (2, .long _)]) rfl ?_
  refine b_goto hO dX11_countRowsOfOne_91 (tgt := 30) (by decide) ?_
  refine b_sub [1, 2, 3, 0] rfl ?_
  exact hk30 _ _ _ _
theorem tbX11_countRowsOfOne_30 (n0 : Nat) (hO : OKc p (rmL 5) s m args meth c LX D cy ad cX11_countRowsOfOne RX11 5 5 (some .long)) (k30 : Int32 → Int64 → Int32 → Mem → Option (Int64 × Mem)) (hk30 : ∀ (x1 : Int32) (y2 : Int64) (x4 : Int32) (M : Mem), BL p l e (rmL 5) s m args below meth c LX D cy ad 5 (QL LX D cy ad) 30 [(0, .ref (ad 0)), (1, .int x1), (2, .long y2), (4, .int x4)] [] M (k30 x1 y2 x4 M)) (x1 : Int32) (y2 : Int64) (x4 : Int32) (M : Mem) : BL p l e (rmL 5) s m args below meth c LX D cy ad 5 (QL LX D cy ad) 30 [(0, .ref (ad 0)), (1, .int x1), (2, .long y2), (4, .int x4)] [] M (bX11_countRowsOfOne_30 n0 k30 x1 y2 x4 M) := by
  unfold bX11_countRowsOfOne_30
  refine b_iload hO dX11_countRowsOfOne_30 3 rfl ?_
  refine b_aload_n hO dX11_countRowsOfOne_32 0 rfl rfl ?_
  refine b_getR hO flX11_19 kLX_0 (id := 1) rfl rfl (rk := 9) rfl (by decide) dX11_countRowsOfOne_33 (fun hg1 => ?_)
  refine b_get hO flX11_136 hg1 (v := .int (gI _ (128 * (gR M 1) + 1))) rfl dX11_countRowsOfOne_36 ?_
  refine b_icmp_ge hO dX11_countRowsOfOne_39 (tgt := 94) (by decide) ?_ ?_
  · refine b_lload_n hO dX11_countRowsOfOne_94 2 rfl rfl ?_
    exact b_lret hO dX11_countRowsOfOne_95
  · refine b_aload_n hO dX11_countRowsOfOne_42 0 rfl rfl ?_
    refine b_get hO flX11_40 kLX_0 (v := .ref (ad 7)) rfl dX11_countRowsOfOne_43 ?_
    refine b_aload_n hO dX11_countRowsOfOne_46 0 rfl rfl ?_
    refine b_get hO flX11_40 kLX_0 (v := .ref (ad 7)) rfl dX11_countRowsOfOne_47 ?_
    refine b_get hO flX11_355 kLX_7 (v := .int (gI _ 897)) rfl dX11_countRowsOfOne_50 ?_
    refine b_iload hO dX11_countRowsOfOne_53 3 rfl ?_
    refine b_iconst hO dX11_countRowsOfOne_55 ic_i_0 ?_
    refine b_aload_n hO dX11_countRowsOfOne_56 0 rfl rfl ?_
    refine b_get hO flX11_40 kLX_0 (v := .ref (ad 7)) rfl dX11_countRowsOfOne_57 ?_
    refine b_get hO flX11_358 kLX_7 (v := .int (gI _ 900)) rfl dX11_countRowsOfOne_60 ?_
    refine b_callVV hO mdX1_hold mvX1_hold w952 (ci := 1) rfl rfl (by decide) kLX_7 (As := [.int _, .int _, .int _, .int _]) (st := []) (ctX1_hold n0 hO.2.2.2.2.2.2.1 _ _ _ _ _) (Nat.le_of_ble_eq_true rfl) rfl rfl (Nat.le_of_ble_eq_true rfl) dX11_countRowsOfOne_63 (fun z63 => ?_)
    refine b_aload_n hO dX11_countRowsOfOne_66 0 rfl rfl ?_
    refine b_get hO flX11_40 kLX_0 (v := .ref (ad 7)) rfl dX11_countRowsOfOne_67 ?_
    refine b_callVI hO mdX1_hourNow mvX1_hourNow w953 (ci := 1) rfl rfl (by decide) kLX_7 (As := []) (st := []) (ctX1_hourNow n0 hO.2.2.2.2.2.2.1 _) (Nat.le_of_ble_eq_true rfl) rfl rfl (Nat.le_of_ble_eq_true rfl) dX11_countRowsOfOne_70 (fun z70 => ?_)
    refine b_iload_n hO dX11_countRowsOfOne_73 1 rfl rfl ?_
    refine b_icmp_ne hO dX11_countRowsOfOne_74 (tgt := 88) (by decide) ?_ ?_
    · exact tfX11_countRowsOfOne_88 n0 hO k30 hk30 _ _ _ _
    · refine b_lload_n hO dX11_countRowsOfOne_77 2 rfl rfl ?_
      refine b_aload_n hO dX11_countRowsOfOne_78 0 rfl rfl ?_
      refine b_getR hO flX11_19 kLX_0 (id := 1) rfl rfl (rk := 9) rfl (by decide) dX11_countRowsOfOne_79 (fun hg2 => ?_)
      refine b_get hO flX11_346 hg2 (v := .int (gI _ (128 * (gR z70.2 1) + 16))) rfl dX11_countRowsOfOne_82 ?_
      refine b_i2l hO dX11_countRowsOfOne_85 ?_
      refine b_ladd hO dX11_countRowsOfOne_86 ?_
      refine b_topL (fun y2_87 => ?_)
      refine b_lstore_n hO dX11_countRowsOfOne_87 rfl (by decide) (lv' := [(2, .long _), (0, .ref _), (1, .int _), (4, .int _)]) rfl ?_
      refine b_sub [1, 2, 0, 3] rfl ?_
      exact tfX11_countRowsOfOne_88 n0 hO k30 hk30 _ _ _ _
theorem lX11_countRowsOfOne_30 (n0 : Nat) (hO : OKc p (rmL 5) s m args meth c LX D cy ad cX11_countRowsOfOne RX11 5 5 (some .long)) : ∀ (w : Nat) (x1 : Int32) (y2 : Int64) (x4 : Int32) (M : Mem), BL p l e (rmL 5) s m args below meth c LX D cy ad 5 (QL LX D cy ad) 30 [(0, .ref (ad 0)), (1, .int x1), (2, .long y2), (4, .int x4)] [] M (loopN (bX11_countRowsOfOne_30 n0) (fun _ _ _ _ => none) w x1 y2 x4 M) := by
  intro w
  induction w with
  | zero =>
    intros
    exact b_none
  | succ w ih =>
    intro x1 y2 x4 M
    exact tbX11_countRowsOfOne_30 n0 hO _ ih x1 y2 x4 M
theorem tfX11_countRowsOfOne_30 (n0 : Nat) (hO : OKc p (rmL 5) s m args meth c LX D cy ad cX11_countRowsOfOne RX11 5 5 (some .long)) (x1 : Int32) (y2 : Int64) (x4 : Int32) (M : Mem) : BL p l e (rmL 5) s m args below meth c LX D cy ad 5 (QL LX D cy ad) 30 [(0, .ref (ad 0)), (1, .int x1), (2, .long y2), (4, .int x4)] [] M (fX11_countRowsOfOne_30 n0 x1 y2 x4 M) := lX11_countRowsOfOne_30 n0 hO n0 x1 y2 x4 M
theorem tfX11_countRowsOfOne_26 (n0 : Nat) (hO : OKc p (rmL 5) s m args meth c LX D cy ad cX11_countRowsOfOne RX11 5 5 (some .long)) (x1 : Int32) (v0 : Int64) (M : Mem) : BL p l e (rmL 5) s m args below meth c LX D cy ad 5 (QL LX D cy ad) 26 [(0, .ref (ad 0)), (1, .int x1)] [.long v0] M (fX11_countRowsOfOne_26 n0 x1 v0 M) := by
  unfold fX11_countRowsOfOne_26
  refine b_lstore_n hO dX11_countRowsOfOne_26 rfl (by decide) (lv' := [(2, .long _), (0, .ref _), (1, .int _)]) rfl ?_
  refine b_iconst hO dX11_countRowsOfOne_27 ic_i_0 ?_
  refine b_istore hO dX11_countRowsOfOne_28 (by decide) (lv' := [(4, .int _), (2, .long _), (0, .ref _), (1, .int _)]) rfl ?_
  refine b_sub [2, 3, 1, 0] rfl ?_
  exact tfX11_countRowsOfOne_30 n0 hO _ _ _ _
theorem tfX11_countRowsOfOne (n0 : Nat) (hO : OKc p (rmL 5) s m args meth c LX D cy ad cX11_countRowsOfOne RX11 5 5 (some .long)) (x1 : Int32) (M : Mem) : BL p l e (rmL 5) s m args below meth c LX D cy ad 5 (QL LX D cy ad) 0 [(0, .ref (ad 0)), (1, .int x1)] [] M (fX11_countRowsOfOne n0 x1 M) := by
  unfold fX11_countRowsOfOne
  refine b_aload_n hO dX11_countRowsOfOne_0 0 rfl rfl ?_
  refine b_get hO flX11_40 kLX_0 (v := .ref (ad 7)) rfl dX11_countRowsOfOne_1 ?_
  refine b_callVV hO mdX1_goOn mvX1_goOn w1041 (ci := 1) rfl rfl (by decide) kLX_7 (As := []) (st := []) (ctX1_goOn n0 hO.2.2.2.2.2.2.1 _) (Nat.le_of_ble_eq_true rfl) rfl rfl (Nat.le_of_ble_eq_true rfl) dX11_countRowsOfOne_4 (fun z4 => ?_)
  refine b_aload_n hO dX11_countRowsOfOne_7 0 rfl rfl ?_
  refine b_get hO flX11_40 kLX_0 (v := .ref (ad 7)) rfl dX11_countRowsOfOne_8 ?_
  refine b_callVI hO mdX1_hourNow mvX1_hourNow w953 (ci := 1) rfl rfl (by decide) kLX_7 (As := []) (st := []) (ctX1_hourNow n0 hO.2.2.2.2.2.2.1 _) (Nat.le_of_ble_eq_true rfl) rfl rfl (Nat.le_of_ble_eq_true rfl) dX11_countRowsOfOne_11 (fun z11 => ?_)
  refine b_iload_n hO dX11_countRowsOfOne_14 1 rfl rfl ?_
  refine b_icmp_ne hO dX11_countRowsOfOne_15 (tgt := 25) (by decide) ?_ ?_
  · refine b_lconst hO dX11_countRowsOfOne_25 (v := 0) rfl ?_
    exact tfX11_countRowsOfOne_26 n0 hO _ _ _
  · refine b_aload_n hO dX11_countRowsOfOne_18 0 rfl rfl ?_
    refine b_callVL hO mdX11_countRowsWithout mvX11_countRowsWithout w1042 (ci := 11) rfl rfl (by decide) kLX_0 (As := []) (st := []) (ctX11_countRowsWithout n0 hO.2.2.2.2.2.2.1 _) (Nat.le_of_ble_eq_true rfl) rfl rfl (Nat.le_of_ble_eq_true rfl) dX11_countRowsOfOne_19 (fun z19 => ?_)
    refine b_goto hO dX11_countRowsOfOne_22 (tgt := 26) (by decide) ?_
    exact tfX11_countRowsOfOne_26 n0 hO _ _ _
theorem ctX11_countRowsOfOne (n0 : Nat) (hI : Inj LX ad) (x1 : Int32) (M : Mem) : CT l LX D cy ad yX11_countRowsOfOne cX11_countRowsOfOne 5 (some .long) 5 (QL LX D cy ad) [.ref (ad 0), .int x1] M (fX11_countRowsOfOne n0 x1 M) :=
  CT.mk LXok hI (by decide) (Nat.le_of_ble_eq_true rfl) (fun hO => tfX11_countRowsOfOne n0 hO x1 M)
/-! X11_countRowsOfTwo -/
def bX11_countRowsOfTwo_38 (n0 : Nat) (k38 : Int32 → Int32 → Int32 → Int64 → Int32 → Mem → Option (Int64 × Mem)) (x1 : Int32) (x2 : Int32) (x3 : Int32) (y4 : Int64) (x6 : Int32) (M : Mem) : Option (Int64 × Mem) :=
  if (gI M (128 * (gR M 1) + 1)) ≤ x6 then
    some (y4, M)
  else
    (fX1_hold n0 x2 x6 (0 : Int32) x3 M).bind fun z59 =>
    (fX11_countRowsOfOne n0 x1 z59).bind fun z74 =>
    bnd (y4 + (((gI z59 (128 * (gR z59 1) + 16))).toInt64 * z74.1)) fun y4_79 =>
    k38 x1 x2 x3 y4_79 (x6 + (1 : Int32)) z74.2
def fX11_countRowsOfTwo_38 (n0 : Nat) : Int32 → Int32 → Int32 → Int64 → Int32 → Mem → Option (Int64 × Mem) := loopN (bX11_countRowsOfTwo_38 n0) (fun _ _ _ _ _ _ => none) n0
def fX11_countRowsOfTwo (n0 : Nat) (x1 : Int32) (M : Mem) : Option (Int64 × Mem) :=
  bnd (gI M 897) fun x2_7 =>
  (fX1_goOn n0 M).bind fun z12 =>
  bnd (gI z12 900) fun x3_22 =>
  (fX11_countRowsWithout n0 z12).bind fun z24 =>
  (fX11_countRowsOfOne n0 x1 z24.2).bind fun z29 =>
  bnd (z24.1 * z29.1) fun y4_33 =>
  fX11_countRowsOfTwo_38 n0 x1 x2_7 x3_22 y4_33 (0 : Int32) z29.2
theorem tbX11_countRowsOfTwo_38 (n0 : Nat) (hO : OKc p (rmL 6) s m args meth c LX D cy ad cX11_countRowsOfTwo RX11 7 6 (some .long)) (k38 : Int32 → Int32 → Int32 → Int64 → Int32 → Mem → Option (Int64 × Mem)) (hk38 : ∀ (x1 : Int32) (x2 : Int32) (x3 : Int32) (y4 : Int64) (x6 : Int32) (M : Mem), BL p l e (rmL 6) s m args below meth c LX D cy ad 7 (QL LX D cy ad) 38 [(0, .ref (ad 0)), (1, .int x1), (2, .int x2), (3, .int x3), (4, .long y4), (6, .int x6)] [] M (k38 x1 x2 x3 y4 x6 M)) (x1 : Int32) (x2 : Int32) (x3 : Int32) (y4 : Int64) (x6 : Int32) (M : Mem) : BL p l e (rmL 6) s m args below meth c LX D cy ad 7 (QL LX D cy ad) 38 [(0, .ref (ad 0)), (1, .int x1), (2, .int x2), (3, .int x3), (4, .long y4), (6, .int x6)] [] M (bX11_countRowsOfTwo_38 n0 k38 x1 x2 x3 y4 x6 M) := by
  unfold bX11_countRowsOfTwo_38
  refine b_iload hO dX11_countRowsOfTwo_38 5 rfl ?_
  refine b_aload_n hO dX11_countRowsOfTwo_40 0 rfl rfl ?_
  refine b_getR hO flX11_19 kLX_0 (id := 1) rfl rfl (rk := 9) rfl (by decide) dX11_countRowsOfTwo_41 (fun hg1 => ?_)
  refine b_get hO flX11_136 hg1 (v := .int (gI _ (128 * (gR M 1) + 1))) rfl dX11_countRowsOfTwo_44 ?_
  refine b_icmp_ge hO dX11_countRowsOfTwo_47 (tgt := 87) (by decide) ?_ ?_
  · refine b_lload hO dX11_countRowsOfTwo_87 4 rfl ?_
    exact b_lret hO dX11_countRowsOfTwo_89
  · refine b_aload_n hO dX11_countRowsOfTwo_50 0 rfl rfl ?_
    refine b_get hO flX11_40 kLX_0 (v := .ref (ad 7)) rfl dX11_countRowsOfTwo_51 ?_
    refine b_iload_n hO dX11_countRowsOfTwo_54 2 rfl rfl ?_
    refine b_iload hO dX11_countRowsOfTwo_55 5 rfl ?_
    refine b_iconst hO dX11_countRowsOfTwo_57 ic_i_0 ?_
    refine b_iload_n hO dX11_countRowsOfTwo_58 3 rfl rfl ?_
    refine b_callVV hO mdX1_hold mvX1_hold w952 (ci := 1) rfl rfl (by decide) kLX_7 (As := [.int _, .int _, .int _, .int _]) (st := []) (ctX1_hold n0 hO.2.2.2.2.2.2.1 _ _ _ _ _) (Nat.le_of_ble_eq_true rfl) rfl rfl (Nat.le_of_ble_eq_true rfl) dX11_countRowsOfTwo_59 (fun z59 => ?_)
    refine b_lload hO dX11_countRowsOfTwo_62 4 rfl ?_
    refine b_aload_n hO dX11_countRowsOfTwo_64 0 rfl rfl ?_
    refine b_getR hO flX11_19 kLX_0 (id := 1) rfl rfl (rk := 9) rfl (by decide) dX11_countRowsOfTwo_65 (fun hg2 => ?_)
    refine b_get hO flX11_346 hg2 (v := .int (gI _ (128 * (gR z59 1) + 16))) rfl dX11_countRowsOfTwo_68 ?_
    refine b_i2l hO dX11_countRowsOfTwo_71 ?_
    refine b_aload_n hO dX11_countRowsOfTwo_72 0 rfl rfl ?_
    refine b_iload_n hO dX11_countRowsOfTwo_73 1 rfl rfl ?_
    refine b_callVL hO mdX11_countRowsOfOne mvX11_countRowsOfOne w1037 (ci := 11) rfl rfl (by decide) kLX_0 (As := [.int _]) (st := [.long _, .long _]) (ctX11_countRowsOfOne n0 hO.2.2.2.2.2.2.1 _ _) (Nat.le_of_ble_eq_true rfl) rfl rfl (Nat.le_of_ble_eq_true rfl) dX11_countRowsOfTwo_74 (fun z74 => ?_)
    refine b_lmul hO dX11_countRowsOfTwo_77 ?_
    refine b_ladd hO dX11_countRowsOfTwo_78 ?_
    refine b_topL (fun y4_79 => ?_)
    refine b_lstore hO dX11_countRowsOfTwo_79 (by decide) (lv' := [(4, .long _), (0, .ref _), (1, .int _), (2, .int _), (3, .int _), (6, .int _)]) rfl ?_
    refine b_iinc hO dX11_countRowsOfTwo_81 5 rfl ic_i_1 (by decide) (lv' := [(6, .int _), (4, .long _), (0, .ref _), (1, .int _), (2, .int _), (3, .int _)]) rfl ?_
    refine b_goto hO dX11_countRowsOfTwo_84 (tgt := 38) (by decide) ?_
    refine b_sub [2, 3, 4, 5, 1, 0] rfl ?_
    exact hk38 _ _ _ _ _ _
theorem lX11_countRowsOfTwo_38 (n0 : Nat) (hO : OKc p (rmL 6) s m args meth c LX D cy ad cX11_countRowsOfTwo RX11 7 6 (some .long)) : ∀ (w : Nat) (x1 : Int32) (x2 : Int32) (x3 : Int32) (y4 : Int64) (x6 : Int32) (M : Mem), BL p l e (rmL 6) s m args below meth c LX D cy ad 7 (QL LX D cy ad) 38 [(0, .ref (ad 0)), (1, .int x1), (2, .int x2), (3, .int x3), (4, .long y4), (6, .int x6)] [] M (loopN (bX11_countRowsOfTwo_38 n0) (fun _ _ _ _ _ _ => none) w x1 x2 x3 y4 x6 M) := by
  intro w
  induction w with
  | zero =>
    intros
    exact b_none
  | succ w ih =>
    intro x1 x2 x3 y4 x6 M
    exact tbX11_countRowsOfTwo_38 n0 hO _ ih x1 x2 x3 y4 x6 M
theorem tfX11_countRowsOfTwo_38 (n0 : Nat) (hO : OKc p (rmL 6) s m args meth c LX D cy ad cX11_countRowsOfTwo RX11 7 6 (some .long)) (x1 : Int32) (x2 : Int32) (x3 : Int32) (y4 : Int64) (x6 : Int32) (M : Mem) : BL p l e (rmL 6) s m args below meth c LX D cy ad 7 (QL LX D cy ad) 38 [(0, .ref (ad 0)), (1, .int x1), (2, .int x2), (3, .int x3), (4, .long y4), (6, .int x6)] [] M (fX11_countRowsOfTwo_38 n0 x1 x2 x3 y4 x6 M) := lX11_countRowsOfTwo_38 n0 hO n0 x1 x2 x3 y4 x6 M
theorem tfX11_countRowsOfTwo (n0 : Nat) (hO : OKc p (rmL 6) s m args meth c LX D cy ad cX11_countRowsOfTwo RX11 7 6 (some .long)) (x1 : Int32) (M : Mem) : BL p l e (rmL 6) s m args below meth c LX D cy ad 7 (QL LX D cy ad) 0 [(0, .ref (ad 0)), (1, .int x1)] [] M (fX11_countRowsOfTwo n0 x1 M) := by
  unfold fX11_countRowsOfTwo
  refine b_aload_n hO dX11_countRowsOfTwo_0 0 rfl rfl ?_
  refine b_get hO flX11_40 kLX_0 (v := .ref (ad 7)) rfl dX11_countRowsOfTwo_1 ?_
  refine b_get hO flX11_355 kLX_7 (v := .int (gI _ 897)) rfl dX11_countRowsOfTwo_4 ?_
  refine b_topI (fun x2_7 => ?_)
  refine b_istore_n hO dX11_countRowsOfTwo_7 rfl (by decide) (lv' := [(2, .int _), (0, .ref _), (1, .int _)]) rfl ?_
  refine b_aload_n hO dX11_countRowsOfTwo_8 1 rfl rfl ?_
  refine b_get hO flX11_40 kLX_0 (v := .ref (ad 7)) rfl dX11_countRowsOfTwo_9 ?_
  refine b_callVV hO mdX1_goOn mvX1_goOn w1041 (ci := 1) rfl rfl (by decide) kLX_7 (As := []) (st := []) (ctX1_goOn n0 hO.2.2.2.2.2.2.1 _) (Nat.le_of_ble_eq_true rfl) rfl rfl (Nat.le_of_ble_eq_true rfl) dX11_countRowsOfTwo_12 (fun z12 => ?_)
  refine b_aload_n hO dX11_countRowsOfTwo_15 1 rfl rfl ?_
  refine b_get hO flX11_40 kLX_0 (v := .ref (ad 7)) rfl dX11_countRowsOfTwo_16 ?_
  refine b_get hO flX11_358 kLX_7 (v := .int (gI _ 900)) rfl dX11_countRowsOfTwo_19 ?_
  refine b_topI (fun x3_22 => ?_)
  refine b_istore_n hO dX11_countRowsOfTwo_22 rfl (by decide) (lv' := [(3, .int _), (2, .int _), (0, .ref _), (1, .int _)]) rfl ?_
  refine b_aload_n hO dX11_countRowsOfTwo_23 2 rfl rfl ?_
  refine b_callVL hO mdX11_countRowsWithout mvX11_countRowsWithout w1042 (ci := 11) rfl rfl (by decide) kLX_0 (As := []) (st := []) (ctX11_countRowsWithout n0 hO.2.2.2.2.2.2.1 _) (Nat.le_of_ble_eq_true rfl) rfl rfl (Nat.le_of_ble_eq_true rfl) dX11_countRowsOfTwo_24 (fun z24 => ?_)
  refine b_aload_n hO dX11_countRowsOfTwo_27 2 rfl rfl ?_
  refine b_iload_n hO dX11_countRowsOfTwo_28 3 rfl rfl ?_
  refine b_callVL hO mdX11_countRowsOfOne mvX11_countRowsOfOne w1037 (ci := 11) rfl rfl (by decide) kLX_0 (As := [.int _]) (st := [.long _]) (ctX11_countRowsOfOne n0 hO.2.2.2.2.2.2.1 _ _) (Nat.le_of_ble_eq_true rfl) rfl rfl (Nat.le_of_ble_eq_true rfl) dX11_countRowsOfTwo_29 (fun z29 => ?_)
  refine b_lmul hO dX11_countRowsOfTwo_32 ?_
  refine b_topL (fun y4_33 => ?_)
  refine b_lstore hO dX11_countRowsOfTwo_33 (by decide) (lv' := [(4, .long _), (3, .int _), (2, .int _), (0, .ref _), (1, .int _)]) rfl ?_
  refine b_iconst hO dX11_countRowsOfTwo_35 ic_i_0 ?_
  refine b_istore hO dX11_countRowsOfTwo_36 (by decide) (lv' := [(6, .int _), (4, .long _), (3, .int _), (2, .int _), (0, .ref _), (1, .int _)]) rfl ?_
  refine b_sub [4, 5, 3, 2, 1, 0] rfl ?_
  exact tfX11_countRowsOfTwo_38 n0 hO _ _ _ _ _ _
theorem ctX11_countRowsOfTwo (n0 : Nat) (hI : Inj LX ad) (x1 : Int32) (M : Mem) : CT l LX D cy ad yX11_countRowsOfTwo cX11_countRowsOfTwo 7 (some .long) 6 (QL LX D cy ad) [.ref (ad 0), .int x1] M (fX11_countRowsOfTwo n0 x1 M) :=
  CT.mk LXok hI (by decide) (Nat.le_of_ble_eq_true rfl) (fun hO => tfX11_countRowsOfTwo n0 hO x1 M)
/-! X11_odds -/
def fX11_odds (n0 : Nat) (x1 : Int32) (x2 : Int32) (x3 : Int32) (M : Mem) : Option (Int64 × Mem) :=
  (fX9_isCorner n0 (gR M 1) x1 M).bind fun z5 =>
  if z5.1 = 0 then
    some ((-1 : Int64), z5.2)
  else
    if (gI z5.2 (128 * (gR z5.2 1) + 1)) = 0 then
      some ((-1 : Int64), z5.2)
    else
      if x3 < (1 : Int32) then
        some ((-1 : Int64), z5.2)
      else
        if (2 : Int32) < x3 then
          some ((-1 : Int64), z5.2)
        else
          (fX11_isBeyond n0 x3 z5.2).bind fun z33 =>
          if z33.1 = 0 then
            if x2 < (-1 : Int32) then
              some ((-1 : Int64), z33.2)
            else
              if x2 ≤ (23 : Int32) then
                if x2 = (-1 : Int32) then
                  bnd (((100 : Int64) * ((gI z33.2 (128 * (gR z33.2 1) + 5))).toInt64) * ((gI z33.2 (128 * (gR z33.2 1) + 1))).toInt64) fun y4_84 =>
                  if x3 = (1 : Int32) then
                    some (y4_84, z33.2)
                  else
                    some ((y4_84 * y4_84), z33.2)
                else
                  (fX11_lookAt n0 x1 z33.2).bind fun z104 =>
                  if x3 = (1 : Int32) then
                    (fX11_countRowsOfOne n0 x2 z104).bind fun z114 =>
                    some (z114.1, z114.2)
                  else
                    (fX11_countRowsOfTwo n0 x2 z104).bind fun z122 =>
                    some (z122.1, z122.2)
              else
                some ((-1 : Int64), z33.2)
          else
            some ((-1 : Int64), z33.2)
theorem tfX11_odds (n0 : Nat) (hO : OKc p (rmL 7) s m args meth c LX D cy ad cX11_odds RX11 6 7 (some .long)) (x1 : Int32) (x2 : Int32) (x3 : Int32) (M : Mem) : BL p l e (rmL 7) s m args below meth c LX D cy ad 6 (QL LX D cy ad) 0 [(0, .ref (ad 0)), (1, .int x1), (2, .int x2), (3, .int x3)] [] M (fX11_odds n0 x1 x2 x3 M) := by
  unfold fX11_odds
  refine b_aload_n hO dX11_odds_0 0 rfl rfl ?_
  refine b_getR hO flX11_19 kLX_0 (id := 1) rfl rfl (rk := 9) rfl (by decide) dX11_odds_1 (fun hg1 => ?_)
  refine b_iload_n hO dX11_odds_4 1 rfl rfl ?_
  refine b_callVI hO mdX9_isCorner mvX9_isCorner w928 (ci := 9) rfl rfl (by decide) hg1 (As := [.int _]) (st := []) (ctX9_isCorner n0 _ hg1 hO.2.2.2.2.2.2.1 _ _) (Nat.le_of_ble_eq_true rfl) rfl rfl (Nat.le_of_ble_eq_true rfl) dX11_odds_5 (fun z5 => ?_)
  refine b_if_eq hO dX11_odds_8 (tgt := 39) (by decide) ?_ ?_
  · refine b_ldc2 hO w1035 dX11_odds_39 ?_
    exact b_lret hO dX11_odds_42
  · refine b_aload_n hO dX11_odds_11 0 rfl rfl ?_
    refine b_getR hO flX11_19 kLX_0 (id := 1) rfl rfl (rk := 9) rfl (by decide) dX11_odds_12 (fun hg2 => ?_)
    refine b_get hO flX11_136 hg2 (v := .int (gI _ (128 * (gR z5.2 1) + 1))) rfl dX11_odds_15 ?_
    refine b_if_eq hO dX11_odds_18 (tgt := 39) (by decide) ?_ ?_
    · refine b_ldc2 hO w1035 dX11_odds_39 ?_
      exact b_lret hO dX11_odds_42
    · refine b_iload_n hO dX11_odds_21 3 rfl rfl ?_
      refine b_iconst hO dX11_odds_22 ic_i_1 ?_
      refine b_icmp_lt hO dX11_odds_23 (tgt := 39) (by decide) ?_ ?_
      · refine b_ldc2 hO w1035 dX11_odds_39 ?_
        exact b_lret hO dX11_odds_42
      · refine b_iload_n hO dX11_odds_26 3 rfl rfl ?_
        refine b_iconst hO dX11_odds_27 ic_i_2 ?_
        refine b_icmp_gt hO dX11_odds_28 (tgt := 39) (by decide) ?_ ?_
        · refine b_ldc2 hO w1035 dX11_odds_39 ?_
          exact b_lret hO dX11_odds_42
        · refine b_aload_n hO dX11_odds_31 0 rfl rfl ?_
          refine b_iload_n hO dX11_odds_32 3 rfl rfl ?_
          refine b_callVI hO mdX11_isBeyond mvX11_isBeyond w962 (ci := 11) rfl rfl (by decide) kLX_0 (As := [.int _]) (st := []) (ctX11_isBeyond n0 hO.2.2.2.2.2.2.1 _ _) (Nat.le_of_ble_eq_true rfl) rfl rfl (Nat.le_of_ble_eq_true rfl) dX11_odds_33 (fun z33 => ?_)
          refine b_if_eq hO dX11_odds_36 (tgt := 43) (by decide) ?_ ?_
          · refine b_iload_n hO dX11_odds_43 2 rfl rfl ?_
            refine b_iconst hO dX11_odds_44 ic_i_m1 ?_
            refine b_icmp_lt hO dX11_odds_45 (tgt := 54) (by decide) ?_ ?_
            · refine b_ldc2 hO w1035 dX11_odds_54 ?_
              exact b_lret hO dX11_odds_57
            · refine b_iload_n hO dX11_odds_48 2 rfl rfl ?_
              refine b_bipush hO dX11_odds_49 ic_b_23 ?_
              refine b_icmp_le hO dX11_odds_51 (tgt := 58) (by decide) ?_ ?_
              · refine b_iload_n hO dX11_odds_58 2 rfl rfl ?_
                refine b_iconst hO dX11_odds_59 ic_i_m1 ?_
                refine b_icmp_ne hO dX11_odds_60 (tgt := 102) (by decide) ?_ ?_
                · refine b_aload_n hO dX11_odds_102 0 rfl rfl ?_
                  refine b_iload_n hO dX11_odds_103 1 rfl rfl ?_
                  refine b_callVV hO mdX11_lookAt mvX11_lookAt w948 (ci := 11) rfl rfl (by decide) kLX_0 (As := [.int _]) (st := []) (ctX11_lookAt n0 hO.2.2.2.2.2.2.1 _ _) (Nat.le_of_ble_eq_true rfl) rfl rfl (Nat.le_of_ble_eq_true rfl) dX11_odds_104 (fun z104 => ?_)
                  refine b_iload_n hO dX11_odds_107 3 rfl rfl ?_
                  refine b_iconst hO dX11_odds_108 ic_i_1 ?_
                  refine b_icmp_ne hO dX11_odds_109 (tgt := 120) (by decide) ?_ ?_
                  · refine b_aload_n hO dX11_odds_120 0 rfl rfl ?_
                    refine b_iload_n hO dX11_odds_121 2 rfl rfl ?_
                    refine b_callVL hO mdX11_countRowsOfTwo mvX11_countRowsOfTwo w1046 (ci := 11) rfl rfl (by decide) kLX_0 (As := [.int _]) (st := []) (ctX11_countRowsOfTwo n0 hO.2.2.2.2.2.2.1 _ _) (Nat.le_of_ble_eq_true rfl) rfl rfl (Nat.le_of_ble_eq_true rfl) dX11_odds_122 (fun z122 => ?_)
                    exact b_lret hO dX11_odds_125
                  · refine b_aload_n hO dX11_odds_112 0 rfl rfl ?_
                    refine b_iload_n hO dX11_odds_113 2 rfl rfl ?_
                    refine b_callVL hO mdX11_countRowsOfOne mvX11_countRowsOfOne w1037 (ci := 11) rfl rfl (by decide) kLX_0 (As := [.int _]) (st := []) (ctX11_countRowsOfOne n0 hO.2.2.2.2.2.2.1 _ _) (Nat.le_of_ble_eq_true rfl) rfl rfl (Nat.le_of_ble_eq_true rfl) dX11_odds_114 (fun z114 => ?_)
                    refine b_goto hO dX11_odds_117 (tgt := 125) (by decide) ?_
                    exact b_lret hO dX11_odds_125
                · refine b_ldc2 hO w1036 dX11_odds_63 ?_
                  refine b_aload_n hO dX11_odds_66 0 rfl rfl ?_
                  refine b_getR hO flX11_19 kLX_0 (id := 1) rfl rfl (rk := 9) rfl (by decide) dX11_odds_67 (fun hg3 => ?_)
                  refine b_get hO flX11_139 hg3 (v := .int (gI _ (128 * (gR z33.2 1) + 5))) rfl dX11_odds_70 ?_
                  refine b_i2l hO dX11_odds_73 ?_
                  refine b_lmul hO dX11_odds_74 ?_
                  refine b_aload_n hO dX11_odds_75 0 rfl rfl ?_
                  refine b_getR hO flX11_19 kLX_0 (id := 1) rfl rfl (rk := 9) rfl (by decide) dX11_odds_76 (fun hg4 => ?_)
                  refine b_get hO flX11_136 hg4 (v := .int (gI _ (128 * (gR z33.2 1) + 1))) rfl dX11_odds_79 ?_
                  refine b_i2l hO dX11_odds_82 ?_
                  refine b_lmul hO dX11_odds_83 ?_
                  refine b_topL (fun y4_84 => ?_)
                  refine b_lstore hO dX11_odds_84 (by decide) (lv' := [(4, .long _), (0, .ref _), (1, .int _), (2, .int _), (3, .int _)]) rfl ?_
                  refine b_iload_n hO dX11_odds_86 4 rfl rfl ?_
                  refine b_iconst hO dX11_odds_87 ic_i_1 ?_
                  refine b_icmp_ne hO dX11_odds_88 (tgt := 96) (by decide) ?_ ?_
                  · refine b_lload hO dX11_odds_96 0 rfl ?_
                    refine b_lload hO dX11_odds_98 0 rfl ?_
                    refine b_lmul hO dX11_odds_100 ?_
                    exact b_lret hO dX11_odds_101
                  · refine b_lload hO dX11_odds_91 0 rfl ?_
                    refine b_goto hO dX11_odds_93 (tgt := 101) (by decide) ?_
                    exact b_lret hO dX11_odds_101
              · refine b_ldc2 hO w1035 dX11_odds_54 ?_
                exact b_lret hO dX11_odds_57
          · refine b_ldc2 hO w1035 dX11_odds_39 ?_
            exact b_lret hO dX11_odds_42
theorem ctX11_odds (n0 : Nat) (hI : Inj LX ad) (x1 : Int32) (x2 : Int32) (x3 : Int32) (M : Mem) : CT l LX D cy ad yX11_odds cX11_odds 6 (some .long) 7 (QL LX D cy ad) [.ref (ad 0), .int x1, .int x2, .int x3] M (fX11_odds n0 x1 x2 x3 M) :=
  CT.mk LXok hI (by decide) (Nat.le_of_ble_eq_true rfl) (fun hO => tfX11_odds n0 hO x1 x2 x3 M)
/-! X11_way -/
def fX11_way (n0 : Nat) (x1 : Int32) (x2 : Int32) (M : Mem) : Option (Int32 × Mem) :=
  (fX9_isCorner n0 (gR M 1) x1 M).bind fun z5 =>
  if z5.1 = 0 then
    some ((-1 : Int32), z5.2)
  else
    (fX9_isCorner n0 (gR z5.2 1) x2 z5.2).bind fun z16 =>
    if z16.1 = 0 then
      some ((-1 : Int32), z16.2)
    else
      (fX10_stepsOf n0 (gR z16.2 1) x1 x2 z16.2).bind fun z34 =>
      some (z34.1, z34.2)
theorem tfX11_way (n0 : Nat) (hO : OKc p (rmL 3) s m args meth c LX D cy ad cX11_way RX11 3 3 (some .int)) (x1 : Int32) (x2 : Int32) (M : Mem) : BL p l e (rmL 3) s m args below meth c LX D cy ad 3 (QI LX D cy ad) 0 [(0, .ref (ad 0)), (1, .int x1), (2, .int x2)] [] M (fX11_way n0 x1 x2 M) := by
  unfold fX11_way
  refine b_aload_n hO dX11_way_0 0 rfl rfl ?_
  refine b_getR hO flX11_19 kLX_0 (id := 1) rfl rfl (rk := 9) rfl (by decide) dX11_way_1 (fun hg1 => ?_)
  refine b_iload_n hO dX11_way_4 1 rfl rfl ?_
  refine b_callVI hO mdX9_isCorner mvX9_isCorner w928 (ci := 9) rfl rfl (by decide) hg1 (As := [.int _]) (st := []) (ctX9_isCorner n0 _ hg1 hO.2.2.2.2.2.2.1 _ _) (Nat.le_of_ble_eq_true rfl) rfl rfl (Nat.le_of_ble_eq_true rfl) dX11_way_5 (fun z5 => ?_)
  refine b_if_eq hO dX11_way_8 (tgt := 22) (by decide) ?_ ?_
  · refine b_iconst hO dX11_way_22 ic_i_m1 ?_
    exact b_iret hO dX11_way_23
  · refine b_aload_n hO dX11_way_11 0 rfl rfl ?_
    refine b_getR hO flX11_19 kLX_0 (id := 1) rfl rfl (rk := 9) rfl (by decide) dX11_way_12 (fun hg2 => ?_)
    refine b_iload_n hO dX11_way_15 2 rfl rfl ?_
    refine b_callVI hO mdX9_isCorner mvX9_isCorner w928 (ci := 9) rfl rfl (by decide) hg2 (As := [.int _]) (st := []) (ctX9_isCorner n0 _ hg2 hO.2.2.2.2.2.2.1 _ _) (Nat.le_of_ble_eq_true rfl) rfl rfl (Nat.le_of_ble_eq_true rfl) dX11_way_16 (fun z16 => ?_)
    refine b_if_ne hO dX11_way_19 (tgt := 24) (by decide) ?_ ?_
    · refine b_aload_n hO dX11_way_24 0 rfl rfl ?_
      refine b_get hO flX11_61 kLX_0 (v := .ref (ad 18)) rfl dX11_way_25 ?_
      refine b_aload_n hO dX11_way_28 0 rfl rfl ?_
      refine b_getR hO flX11_19 kLX_0 (id := 1) rfl rfl (rk := 9) rfl (by decide) dX11_way_29 (fun hg3 => ?_)
      refine b_iload_n hO dX11_way_32 1 rfl rfl ?_
      refine b_iload_n hO dX11_way_33 2 rfl rfl ?_
      refine b_callVI hO mdX10_stepsOf mvX10_stepsOf w1054 (ci := 10) rfl rfl (by decide) kLX_18 (As := [.ref _, .int _, .int _]) (st := []) (ctX10_stepsOf n0 _ hg3 hO.2.2.2.2.2.2.1 _ _ _) (Nat.le_of_ble_eq_true rfl) rfl rfl (Nat.le_of_ble_eq_true rfl) dX11_way_34 (fun z34 => ?_)
      exact b_iret hO dX11_way_37
    · refine b_iconst hO dX11_way_22 ic_i_m1 ?_
      exact b_iret hO dX11_way_23
theorem ctX11_way (n0 : Nat) (hI : Inj LX ad) (x1 : Int32) (x2 : Int32) (M : Mem) : CT l LX D cy ad yX11_way cX11_way 3 (some .int) 3 (QI LX D cy ad) [.ref (ad 0), .int x1, .int x2] M (fX11_way n0 x1 x2 M) :=
  CT.mk LXok hI (by decide) (Nat.le_of_ble_eq_true rfl) (fun hO => tfX11_way n0 hO x1 x2 M)
/-! X11_arrive -/
def fX11_arrive (n0 : Nat) (x1 : Int32) (x2 : Int32) (M : Mem) : Option (Int32 × Mem) :=
  (fX9_isCorner n0 (gR M 1) x1 M).bind fun z5 =>
  if z5.1 = 0 then
    some ((-1 : Int32), z5.2)
  else
    (fX9_isCorner n0 (gR z5.2 1) x2 z5.2).bind fun z16 =>
    if z16.1 = 0 then
      some ((-1 : Int32), z16.2)
    else
      (fX10_stepsOf n0 (gR z16.2 1) x1 x2 z16.2).bind fun z34 =>
      if z34.1 = (-1 : Int32) then
        some ((-1 : Int32), z34.2)
      else
        if (60 : Int32) < z34.1 then
          some ((-1 : Int32), z34.2)
        else
          (fX11_isBeyond n0 z34.1 z34.2).bind fun z51 =>
          if z51.1 = 0 then
            (fX11_foresee n0 26 x2 z34.1 z51.2).bind fun z66 =>
            if oob z34.1 61 then none else
            some ((gA z66.2 26 (Int32.toNatClampNeg z34.1)), z66.2)
          else
            some ((-1 : Int32), z51.2)
theorem tfX11_arrive (n0 : Nat) (hO : OKc p (rmL 7) s m args meth c LX D cy ad cX11_arrive RX11 4 7 (some .int)) (x1 : Int32) (x2 : Int32) (M : Mem) : BL p l e (rmL 7) s m args below meth c LX D cy ad 4 (QI LX D cy ad) 0 [(0, .ref (ad 0)), (1, .int x1), (2, .int x2)] [] M (fX11_arrive n0 x1 x2 M) := by
  unfold fX11_arrive
  refine b_aload_n hO dX11_arrive_0 0 rfl rfl ?_
  refine b_getR hO flX11_19 kLX_0 (id := 1) rfl rfl (rk := 9) rfl (by decide) dX11_arrive_1 (fun hg1 => ?_)
  refine b_iload_n hO dX11_arrive_4 1 rfl rfl ?_
  refine b_callVI hO mdX9_isCorner mvX9_isCorner w928 (ci := 9) rfl rfl (by decide) hg1 (As := [.int _]) (st := []) (ctX9_isCorner n0 _ hg1 hO.2.2.2.2.2.2.1 _ _) (Nat.le_of_ble_eq_true rfl) rfl rfl (Nat.le_of_ble_eq_true rfl) dX11_arrive_5 (fun z5 => ?_)
  refine b_if_eq hO dX11_arrive_8 (tgt := 22) (by decide) ?_ ?_
  · refine b_iconst hO dX11_arrive_22 ic_i_m1 ?_
    exact b_iret hO dX11_arrive_23
  · refine b_aload_n hO dX11_arrive_11 0 rfl rfl ?_
    refine b_getR hO flX11_19 kLX_0 (id := 1) rfl rfl (rk := 9) rfl (by decide) dX11_arrive_12 (fun hg2 => ?_)
    refine b_iload_n hO dX11_arrive_15 2 rfl rfl ?_
    refine b_callVI hO mdX9_isCorner mvX9_isCorner w928 (ci := 9) rfl rfl (by decide) hg2 (As := [.int _]) (st := []) (ctX9_isCorner n0 _ hg2 hO.2.2.2.2.2.2.1 _ _) (Nat.le_of_ble_eq_true rfl) rfl rfl (Nat.le_of_ble_eq_true rfl) dX11_arrive_16 (fun z16 => ?_)
    refine b_if_ne hO dX11_arrive_19 (tgt := 24) (by decide) ?_ ?_
    · refine b_aload_n hO dX11_arrive_24 0 rfl rfl ?_
      refine b_get hO flX11_61 kLX_0 (v := .ref (ad 18)) rfl dX11_arrive_25 ?_
      refine b_aload_n hO dX11_arrive_28 0 rfl rfl ?_
      refine b_getR hO flX11_19 kLX_0 (id := 1) rfl rfl (rk := 9) rfl (by decide) dX11_arrive_29 (fun hg3 => ?_)
      refine b_iload_n hO dX11_arrive_32 1 rfl rfl ?_
      refine b_iload_n hO dX11_arrive_33 2 rfl rfl ?_
      refine b_callVI hO mdX10_stepsOf mvX10_stepsOf w1054 (ci := 10) rfl rfl (by decide) kLX_18 (As := [.ref _, .int _, .int _]) (st := []) (ctX10_stepsOf n0 _ hg3 hO.2.2.2.2.2.2.1 _ _ _) (Nat.le_of_ble_eq_true rfl) rfl rfl (Nat.le_of_ble_eq_true rfl) dX11_arrive_34 (fun z34 => ?_)
      refine b_istore_n hO dX11_arrive_37 rfl (by decide) (lv' := [(3, .int _), (0, .ref _), (1, .int _), (2, .int _)]) rfl ?_
      refine b_iload_n hO dX11_arrive_38 0 rfl rfl ?_
      refine b_iconst hO dX11_arrive_39 ic_i_m1 ?_
      refine b_icmp_eq hO dX11_arrive_40 (tgt := 57) (by decide) ?_ ?_
      · refine b_iconst hO dX11_arrive_57 ic_i_m1 ?_
        exact b_iret hO dX11_arrive_58
      · refine b_iload_n hO dX11_arrive_43 0 rfl rfl ?_
        refine b_bipush hO dX11_arrive_44 ic_b_60 ?_
        refine b_icmp_gt hO dX11_arrive_46 (tgt := 57) (by decide) ?_ ?_
        · refine b_iconst hO dX11_arrive_57 ic_i_m1 ?_
          exact b_iret hO dX11_arrive_58
        · refine b_aload_n hO dX11_arrive_49 1 rfl rfl ?_
          refine b_iload_n hO dX11_arrive_50 0 rfl rfl ?_
          refine b_callVI hO mdX11_isBeyond mvX11_isBeyond w962 (ci := 11) rfl rfl (by decide) kLX_0 (As := [.int _]) (st := []) (ctX11_isBeyond n0 hO.2.2.2.2.2.2.1 _ _) (Nat.le_of_ble_eq_true rfl) rfl rfl (Nat.le_of_ble_eq_true rfl) dX11_arrive_51 (fun z51 => ?_)
          refine b_if_eq hO dX11_arrive_54 (tgt := 59) (by decide) ?_ ?_
          · refine b_aload_n hO dX11_arrive_59 1 rfl rfl ?_
            refine b_iload_n hO dX11_arrive_60 3 rfl rfl ?_
            refine b_aload_n hO dX11_arrive_61 1 rfl rfl ?_
            refine b_get hO flX11_72 kLX_0 (v := .ref (ad 26)) rfl dX11_arrive_62 ?_
            refine b_iload_n hO dX11_arrive_65 0 rfl rfl ?_
            refine b_callVI hO mdX11_foresee mvX11_foresee w966 (ci := 11) rfl rfl (by decide) kLX_0 (As := [.int _, .ref _, .int _]) (st := []) (ctX11_foresee n0 _ kLX_26 hO.2.2.2.2.2.2.1 _ _ _) (Nat.le_of_ble_eq_true rfl) rfl rfl (Nat.le_of_ble_eq_true rfl) dX11_arrive_66 (fun z66 => ?_)
            refine b_pop hO dX11_arrive_69 rfl ?_
            refine b_aload_n hO dX11_arrive_70 1 rfl rfl ?_
            refine b_get hO flX11_72 kLX_0 (v := .ref (ad 26)) rfl dX11_arrive_71 ?_
            refine b_iload_n hO dX11_arrive_74 0 rfl rfl ?_
            refine b_iald hO kLX_26 (n := 61) rfl dX11_arrive_75 ?_
            exact b_iret hO dX11_arrive_76
          · refine b_iconst hO dX11_arrive_57 ic_i_m1 ?_
            exact b_iret hO dX11_arrive_58
    · refine b_iconst hO dX11_arrive_22 ic_i_m1 ?_
      exact b_iret hO dX11_arrive_23
theorem ctX11_arrive (n0 : Nat) (hI : Inj LX ad) (x1 : Int32) (x2 : Int32) (M : Mem) : CT l LX D cy ad yX11_arrive cX11_arrive 4 (some .int) 7 (QI LX D cy ad) [.ref (ad 0), .int x1, .int x2] M (fX11_arrive n0 x1 x2 M) :=
  CT.mk LXok hI (by decide) (Nat.le_of_ble_eq_true rfl) (fun hO => tfX11_arrive n0 hO x1 x2 M)
/-! X11_early -/
def fX11_early_73 (n0 : Nat) (k39 : Int32 → Int32 → Int32 → Mem → Option (Int32 × Mem)) (x1 : Int32) (x2 : Int32) (x3 : Int32) (M : Mem) : Option (Int32 × Mem) :=
  k39 x1 x2 (x3 + (1 : Int32)) M
def bX11_early_39 (n0 : Nat) (k39 : Int32 → Int32 → Int32 → Mem → Option (Int32 × Mem)) (x1 : Int32) (x2 : Int32) (x3 : Int32) (M : Mem) : Option (Int32 × Mem) :=
  if x2 < x3 then
    some ((-1 : Int32), M)
  else
    (fX10_canBeAt n0 x1 x3 M).bind fun z50 =>
    if z50.1 = 0 then
      fX11_early_73 n0 k39 x1 x2 x3 z50.2
    else
      if oob x3 61 then none else
      if oob (0 : Int32) 61 then none else
      if (gA z50.2 26 (Int32.toNatClampNeg (0 : Int32))) ≤ (gA z50.2 26 (Int32.toNatClampNeg x3)) then
        fX11_early_73 n0 k39 x1 x2 x3 z50.2
      else
        some (x3, z50.2)
def fX11_early_39 (n0 : Nat) : Int32 → Int32 → Int32 → Mem → Option (Int32 × Mem) := loopN (bX11_early_39 n0) (fun _ _ _ _ => none) n0
def fX11_early (n0 : Nat) (x1 : Int32) (M : Mem) : Option (Int32 × Mem) :=
  (fX9_isCorner n0 (gR M 1) x1 M).bind fun z5 =>
  if z5.1 = 0 then
    some ((-1 : Int32), z5.2)
  else
    (fX11_foresee n0 26 x1 (60 : Int32) z5.2).bind fun z21 =>
    (fX10_goOutFrom n0 (gR z21.2 1) x1 z21.2).bind fun z34 =>
    fX11_early_39 n0 x1 z21.1 (1 : Int32) z34
theorem tfX11_early_73 (n0 : Nat) (hO : OKc p (rmL 7) s m args meth c LX D cy ad cX11_early RX11 4 7 (some .int)) (k39 : Int32 → Int32 → Int32 → Mem → Option (Int32 × Mem)) (hk39 : ∀ (x1 : Int32) (x2 : Int32) (x3 : Int32) (M : Mem), BL p l e (rmL 7) s m args below meth c LX D cy ad 4 (QI LX D cy ad) 39 [(0, .ref (ad 0)), (1, .int x1), (2, .int x2), (3, .int x3)] [] M (k39 x1 x2 x3 M)) (x1 : Int32) (x2 : Int32) (x3 : Int32) (M : Mem) : BL p l e (rmL 7) s m args below meth c LX D cy ad 4 (QI LX D cy ad) 73 [(0, .ref (ad 0)), (1, .int x1), (2, .int x2), (3, .int x3)] [] M (fX11_early_73 n0 k39 x1 x2 x3 M) := by
  unfold fX11_early_73
  refine b_iinc hO dX11_early_73 3 rfl ic_i_1 (by decide) (lv' := [(3, .int _), (0, .ref _), (1, .int _), (2, .int _)]) rfl ?_
  refine b_goto hO dX11_early_76 (tgt := 39) (by decide) ?_
  refine b_sub [1, 2, 3, 0] rfl ?_
  exact hk39 _ _ _ _
theorem tbX11_early_39 (n0 : Nat) (hO : OKc p (rmL 7) s m args meth c LX D cy ad cX11_early RX11 4 7 (some .int)) (k39 : Int32 → Int32 → Int32 → Mem → Option (Int32 × Mem)) (hk39 : ∀ (x1 : Int32) (x2 : Int32) (x3 : Int32) (M : Mem), BL p l e (rmL 7) s m args below meth c LX D cy ad 4 (QI LX D cy ad) 39 [(0, .ref (ad 0)), (1, .int x1), (2, .int x2), (3, .int x3)] [] M (k39 x1 x2 x3 M)) (x1 : Int32) (x2 : Int32) (x3 : Int32) (M : Mem) : BL p l e (rmL 7) s m args below meth c LX D cy ad 4 (QI LX D cy ad) 39 [(0, .ref (ad 0)), (1, .int x1), (2, .int x2), (3, .int x3)] [] M (bX11_early_39 n0 k39 x1 x2 x3 M) := by
  unfold bX11_early_39
  refine b_iload_n hO dX11_early_39 3 rfl rfl ?_
  refine b_iload_n hO dX11_early_40 2 rfl rfl ?_
  refine b_icmp_gt hO dX11_early_41 (tgt := 79) (by decide) ?_ ?_
  · refine b_iconst hO dX11_early_79 ic_i_m1 ?_
    exact b_iret hO dX11_early_80
  · refine b_aload_n hO dX11_early_44 0 rfl rfl ?_
    refine b_get hO flX11_61 kLX_0 (v := .ref (ad 18)) rfl dX11_early_45 ?_
    refine b_iload_n hO dX11_early_48 1 rfl rfl ?_
    refine b_iload_n hO dX11_early_49 3 rfl rfl ?_
    refine b_callVI hO mdX10_canBeAt mvX10_canBeAt w1080 (ci := 10) rfl rfl (by decide) kLX_18 (As := [.int _, .int _]) (st := []) (ctX10_canBeAt n0 hO.2.2.2.2.2.2.1 _ _ _) (Nat.le_of_ble_eq_true rfl) rfl rfl (Nat.le_of_ble_eq_true rfl) dX11_early_50 (fun z50 => ?_)
    refine b_if_eq hO dX11_early_53 (tgt := 73) (by decide) ?_ ?_
    · exact tfX11_early_73 n0 hO k39 hk39 _ _ _ _
    · refine b_aload_n hO dX11_early_56 0 rfl rfl ?_
      refine b_get hO flX11_72 kLX_0 (v := .ref (ad 26)) rfl dX11_early_57 ?_
      refine b_iload_n hO dX11_early_60 3 rfl rfl ?_
      refine b_iald hO kLX_26 (n := 61) rfl dX11_early_61 ?_
      refine b_aload_n hO dX11_early_62 0 rfl rfl ?_
      refine b_get hO flX11_72 kLX_0 (v := .ref (ad 26)) rfl dX11_early_63 ?_
      refine b_iconst hO dX11_early_66 ic_i_0 ?_
      refine b_iald hO kLX_26 (n := 61) rfl dX11_early_67 ?_
      refine b_icmp_ge hO dX11_early_68 (tgt := 73) (by decide) ?_ ?_
      · exact tfX11_early_73 n0 hO k39 hk39 _ _ _ _
      · refine b_iload_n hO dX11_early_71 3 rfl rfl ?_
        exact b_iret hO dX11_early_72
theorem lX11_early_39 (n0 : Nat) (hO : OKc p (rmL 7) s m args meth c LX D cy ad cX11_early RX11 4 7 (some .int)) : ∀ (w : Nat) (x1 : Int32) (x2 : Int32) (x3 : Int32) (M : Mem), BL p l e (rmL 7) s m args below meth c LX D cy ad 4 (QI LX D cy ad) 39 [(0, .ref (ad 0)), (1, .int x1), (2, .int x2), (3, .int x3)] [] M (loopN (bX11_early_39 n0) (fun _ _ _ _ => none) w x1 x2 x3 M) := by
  intro w
  induction w with
  | zero =>
    intros
    exact b_none
  | succ w ih =>
    intro x1 x2 x3 M
    exact tbX11_early_39 n0 hO _ ih x1 x2 x3 M
theorem tfX11_early_39 (n0 : Nat) (hO : OKc p (rmL 7) s m args meth c LX D cy ad cX11_early RX11 4 7 (some .int)) (x1 : Int32) (x2 : Int32) (x3 : Int32) (M : Mem) : BL p l e (rmL 7) s m args below meth c LX D cy ad 4 (QI LX D cy ad) 39 [(0, .ref (ad 0)), (1, .int x1), (2, .int x2), (3, .int x3)] [] M (fX11_early_39 n0 x1 x2 x3 M) := lX11_early_39 n0 hO n0 x1 x2 x3 M
theorem tfX11_early (n0 : Nat) (hO : OKc p (rmL 7) s m args meth c LX D cy ad cX11_early RX11 4 7 (some .int)) (x1 : Int32) (M : Mem) : BL p l e (rmL 7) s m args below meth c LX D cy ad 4 (QI LX D cy ad) 0 [(0, .ref (ad 0)), (1, .int x1)] [] M (fX11_early n0 x1 M) := by
  unfold fX11_early
  refine b_aload_n hO dX11_early_0 0 rfl rfl ?_
  refine b_getR hO flX11_19 kLX_0 (id := 1) rfl rfl (rk := 9) rfl (by decide) dX11_early_1 (fun hg1 => ?_)
  refine b_iload_n hO dX11_early_4 1 rfl rfl ?_
  refine b_callVI hO mdX9_isCorner mvX9_isCorner w928 (ci := 9) rfl rfl (by decide) hg1 (As := [.int _]) (st := []) (ctX9_isCorner n0 _ hg1 hO.2.2.2.2.2.2.1 _ _) (Nat.le_of_ble_eq_true rfl) rfl rfl (Nat.le_of_ble_eq_true rfl) dX11_early_5 (fun z5 => ?_)
  refine b_if_ne hO dX11_early_8 (tgt := 13) (by decide) ?_ ?_
  · refine b_aload_n hO dX11_early_13 0 rfl rfl ?_
    refine b_iload_n hO dX11_early_14 1 rfl rfl ?_
    refine b_aload_n hO dX11_early_15 0 rfl rfl ?_
    refine b_get hO flX11_72 kLX_0 (v := .ref (ad 26)) rfl dX11_early_16 ?_
    refine b_bipush hO dX11_early_19 ic_b_60 ?_
    refine b_callVI hO mdX11_foresee mvX11_foresee w966 (ci := 11) rfl rfl (by decide) kLX_0 (As := [.int _, .ref _, .int _]) (st := []) (ctX11_foresee n0 _ kLX_26 hO.2.2.2.2.2.2.1 _ _ _) (Nat.le_of_ble_eq_true rfl) rfl rfl (Nat.le_of_ble_eq_true rfl) dX11_early_21 (fun z21 => ?_)
    refine b_istore_n hO dX11_early_24 rfl (by decide) (lv' := [(2, .int _), (0, .ref _), (1, .int _)]) rfl ?_
    refine b_aload_n hO dX11_early_25 1 rfl rfl ?_
    refine b_get hO flX11_61 kLX_0 (v := .ref (ad 18)) rfl dX11_early_26 ?_
    refine b_aload_n hO dX11_early_29 1 rfl rfl ?_
    refine b_getR hO flX11_19 kLX_0 (id := 1) rfl rfl (rk := 9) rfl (by decide) dX11_early_30 (fun hg2 => ?_)
    refine b_iload_n hO dX11_early_33 2 rfl rfl ?_
    refine b_callVV hO mdX10_goOutFrom mvX10_goOutFrom w1073 (ci := 10) rfl rfl (by decide) kLX_18 (As := [.ref _, .int _]) (st := []) (ctX10_goOutFrom n0 _ hg2 hO.2.2.2.2.2.2.1 _ _) (Nat.le_of_ble_eq_true rfl) rfl rfl (Nat.le_of_ble_eq_true rfl) dX11_early_34 (fun z34 => ?_)
    refine b_iconst hO dX11_early_37 ic_i_1 ?_
    refine b_istore_n hO dX11_early_38 rfl (by decide) (lv' := [(3, .int _), (2, .int _), (0, .ref _), (1, .int _)]) rfl ?_
    refine b_sub [2, 3, 1, 0] rfl ?_
    exact tfX11_early_39 n0 hO _ _ _ _
  · refine b_iconst hO dX11_early_11 ic_i_m1 ?_
    exact b_iret hO dX11_early_12
theorem ctX11_early (n0 : Nat) (hI : Inj LX ad) (x1 : Int32) (M : Mem) : CT l LX D cy ad yX11_early cX11_early 4 (some .int) 7 (QI LX D cy ad) [.ref (ad 0), .int x1] M (fX11_early n0 x1 M) :=
  CT.mk LXok hI (by decide) (Nat.le_of_ble_eq_true rfl) (fun hO => tfX11_early n0 hO x1 M)
/-! X11_see -/
def fX11_see (n0 : Nat) (M : Mem) : Option (Int32 × Mem) :=
  (fX5_read n0 (gR M 1) M).bind fun z12 =>
  bnd (sI z12.2 641 (0 : Int32)) fun M21 =>
  if z12.1 = 0 then
    (fX11_refuse n0 (5 : Int32) M21).bind fun z40 =>
    some (z40.1, z40.2)
  else
    some ((gI M21 2688), M21)
theorem tfX11_see (n0 : Nat) (hO : OKc p (rmL 3) s m args meth c LX D cy ad cX11_see RX11 2 3 (some .int)) (M : Mem) : BL p l e (rmL 3) s m args below meth c LX D cy ad 2 (QI LX D cy ad) 0 [(0, .ref (ad 0))] [] M (fX11_see n0 M) := by
  unfold fX11_see
  refine b_aload_n hO dX11_see_0 0 rfl rfl ?_
  refine b_get hO flX11_68 kLX_0 (v := .ref (ad 21)) rfl dX11_see_1 ?_
  refine b_aload_n hO dX11_see_4 0 rfl rfl ?_
  refine b_get hO flX11_12 kLX_0 (v := .ref (ad 5)) rfl dX11_see_5 ?_
  refine b_aload_n hO dX11_see_8 0 rfl rfl ?_
  refine b_getR hO flX11_19 kLX_0 (id := 1) rfl rfl (rk := 9) rfl (by decide) dX11_see_9 (fun hg1 => ?_)
  refine b_callVI hO mdX5_read mvX5_read w1088 (ci := 5) rfl rfl (by decide) kLX_21 (As := [.ref _, .ref _]) (st := []) (ctX5_read n0 _ hg1 hO.2.2.2.2.2.2.1 _) (Nat.le_of_ble_eq_true rfl) rfl rfl (Nat.le_of_ble_eq_true rfl) dX11_see_12 (fun z12 => ?_)
  refine b_istore_n hO dX11_see_15 rfl (by decide) (lv' := [(1, .int _), (0, .ref _)]) rfl ?_
  refine b_aload_n hO dX11_see_16 1 rfl rfl ?_
  refine b_get hO flX11_12 kLX_0 (v := .ref (ad 5)) rfl dX11_see_17 ?_
  refine b_iconst hO dX11_see_20 ic_i_0 ?_
  refine b_putI hO flX11_116 kLX_5 rfl rfl rfl (id := 641) rfl dX11_see_21 ?_
  refine b_bnd (fun M21 => ?_)
  refine b_iload_n hO dX11_see_24 0 rfl rfl ?_
  refine b_if_eq hO dX11_see_25 (tgt := 38) (by decide) ?_ ?_
  · refine b_aload_n hO dX11_see_38 1 rfl rfl ?_
    refine b_iconst hO dX11_see_39 ic_i_5 ?_
    refine b_callVI hO mdX11_refuse mvX11_refuse w671 (ci := 11) rfl rfl (by decide) kLX_0 (As := [.int _]) (st := []) (ctX11_refuse n0 hO.2.2.2.2.2.2.1 _ _) (Nat.le_of_ble_eq_true rfl) rfl rfl (Nat.le_of_ble_eq_true rfl) dX11_see_40 (fun z40 => ?_)
    exact b_iret hO dX11_see_43
  · refine b_aload_n hO dX11_see_28 1 rfl rfl ?_
    refine b_get hO flX11_68 kLX_0 (v := .ref (ad 21)) rfl dX11_see_29 ?_
    refine b_get hO flX11_161 kLX_21 (v := .int (gI _ 2688)) rfl dX11_see_32 ?_
    refine b_goto hO dX11_see_35 (tgt := 43) (by decide) ?_
    exact b_iret hO dX11_see_43
theorem ctX11_see (n0 : Nat) (hI : Inj LX ad) (M : Mem) : CT l LX D cy ad yX11_see cX11_see 2 (some .int) 3 (QI LX D cy ad) [.ref (ad 0)] M (fX11_see n0 M) :=
  CT.mk LXok hI (by decide) (Nat.le_of_ble_eq_true rfl) (fun hO => tfX11_see n0 hO M)
/-! X11_findHeld -/
def fX11_findHeld_59 (n0 : Nat) (k2 : Int32 → Int32 → Mem → Option (Int32 × Mem)) (x1 : Int32) (x2 : Int32) (M : Mem) : Option (Int32 × Mem) :=
  k2 x1 (x2 + (1 : Int32)) M
def fX11_findHeld_153 (n0 : Nat) (k69 : Int32 → Int32 → Int32 → Mem → Option (Int32 × Mem)) (x1 : Int32) (x2 : Int32) (x3 : Int32) (M : Mem) : Option (Int32 × Mem) :=
  k69 x1 x2 (x3 + (1 : Int32)) M
def bX11_findHeld_69 (n0 : Nat) (k69 : Int32 → Int32 → Int32 → Mem → Option (Int32 × Mem)) (x1 : Int32) (x2 : Int32) (x3 : Int32) (M : Mem) : Option (Int32 × Mem) :=
  if (gI M (128 * (gR M 1) + 1)) ≤ x3 then
    some (x2, M)
  else
    (fX1_hold n0 x1 x3 (0 : Int32) (gI M 1281) M).bind fun z94 =>
    (fX1_foresee n0 26 (40 : Int32) z94).bind fun z107 =>
    (fX5_noteHours n0 26 (x3 + (1 : Int32)) z107.1 z107.2).bind fun z125 =>
    (fX5_isSo n0 26 x1 z107.1 z125).bind fun z139 =>
    if z139.1 = 0 then
      fX11_findHeld_153 n0 k69 x1 x2 x3 z139.2
    else
      bnd (x2 ||| ((1 : Int32) <<< ((x3 + (1 : Int32)) &&& 31))) fun x2_152 =>
      fX11_findHeld_153 n0 k69 x1 x2_152 x3 z139.2
def fX11_findHeld_69 (n0 : Nat) : Int32 → Int32 → Int32 → Mem → Option (Int32 × Mem) := loopN (bX11_findHeld_69 n0) (fun _ _ _ _ => none) n0
def bX11_findHeld_2 (n0 : Nat) (k2 : Int32 → Int32 → Mem → Option (Int32 × Mem)) (x1 : Int32) (x2 : Int32) (M : Mem) : Option (Int32 × Mem) :=
  if (gI M (128 * (gR M 1) + 5)) ≤ x2 then
    fX11_findHeld_69 n0 x1 (0 : Int32) (-1 : Int32) M
  else
    if x2 = x1 then
      fX11_findHeld_59 n0 k2 x1 x2 M
    else
      (fX5_isAbout n0 x2 M).bind fun z23 =>
      if z23.1 = 0 then
        fX11_findHeld_59 n0 k2 x1 x2 z23.2
      else
        (fX11_foresee n0 26 x2 (40 : Int32) z23.2).bind fun z37 =>
        (fX5_isSo n0 26 x2 z37.1 z37.2).bind fun z51 =>
        if z51.1 = 0 then
          some ((0 : Int32), z51.2)
        else
          fX11_findHeld_59 n0 k2 x1 x2 z51.2
def fX11_findHeld_2 (n0 : Nat) : Int32 → Int32 → Mem → Option (Int32 × Mem) := loopN (bX11_findHeld_2 n0) (fun _ _ _ => none) n0
def fX11_findHeld (n0 : Nat) (x1 : Int32) (M : Mem) : Option (Int32 × Mem) :=
  fX11_findHeld_2 n0 x1 (0 : Int32) M
theorem tfX11_findHeld_59 (n0 : Nat) (hO : OKc p (rmL 7) s m args meth c LX D cy ad cX11_findHeld RX11 5 7 (some .int)) (k2 : Int32 → Int32 → Mem → Option (Int32 × Mem)) (hk2 : ∀ (x1 : Int32) (x2 : Int32) (M : Mem), BL p l e (rmL 7) s m args below meth c LX D cy ad 5 (QI LX D cy ad) 2 [(0, .ref (ad 0)), (1, .int x1), (2, .int x2)] [] M (k2 x1 x2 M)) (x1 : Int32) (x2 : Int32) (M : Mem) : BL p l e (rmL 7) s m args below meth c LX D cy ad 5 (QI LX D cy ad) 59 [(0, .ref (ad 0)), (1, .int x1), (2, .int x2)] [] M (fX11_findHeld_59 n0 k2 x1 x2 M) := by
  unfold fX11_findHeld_59
  refine b_iinc hO dX11_findHeld_59 2 rfl ic_i_1 (by decide) (lv' := [(2, .int _), (0, .ref _), (1, .int _)]) rfl ?_
  refine b_goto hO dX11_findHeld_62 (tgt := 2) (by decide) ?_
  refine b_sub [1, 2, 0] rfl ?_
  exact hk2 _ _ _
theorem tfX11_findHeld_153 (n0 : Nat) (hO : OKc p (rmL 7) s m args meth c LX D cy ad cX11_findHeld RX11 5 7 (some .int)) (k69 : Int32 → Int32 → Int32 → Mem → Option (Int32 × Mem)) (hk69 : ∀ (x1 : Int32) (x2 : Int32) (x3 : Int32) (M : Mem), BL p l e (rmL 7) s m args below meth c LX D cy ad 5 (QI LX D cy ad) 69 [(0, .ref (ad 0)), (1, .int x1), (2, .int x2), (3, .int x3)] [] M (k69 x1 x2 x3 M)) (x1 : Int32) (x2 : Int32) (x3 : Int32) (M : Mem) : BL p l e (rmL 7) s m args below meth c LX D cy ad 5 (QI LX D cy ad) 153 [(0, .ref (ad 0)), (1, .int x1), (2, .int x2), (3, .int x3)] [] M (fX11_findHeld_153 n0 k69 x1 x2 x3 M) := by
  unfold fX11_findHeld_153
  refine b_iinc hO dX11_findHeld_153 3 rfl ic_i_1 (by decide) (lv' := [(3, .int _), (0, .ref _), (1, .int _), (2, .int _)]) rfl ?_
  refine b_goto hO dX11_findHeld_156 (tgt := 69) (by decide) ?_
  refine b_sub [1, 2, 3, 0] rfl ?_
  exact hk69 _ _ _ _
theorem tbX11_findHeld_69 (n0 : Nat) (hO : OKc p (rmL 7) s m args meth c LX D cy ad cX11_findHeld RX11 5 7 (some .int)) (k69 : Int32 → Int32 → Int32 → Mem → Option (Int32 × Mem)) (hk69 : ∀ (x1 : Int32) (x2 : Int32) (x3 : Int32) (M : Mem), BL p l e (rmL 7) s m args below meth c LX D cy ad 5 (QI LX D cy ad) 69 [(0, .ref (ad 0)), (1, .int x1), (2, .int x2), (3, .int x3)] [] M (k69 x1 x2 x3 M)) (x1 : Int32) (x2 : Int32) (x3 : Int32) (M : Mem) : BL p l e (rmL 7) s m args below meth c LX D cy ad 5 (QI LX D cy ad) 69 [(0, .ref (ad 0)), (1, .int x1), (2, .int x2), (3, .int x3)] [] M (bX11_findHeld_69 n0 k69 x1 x2 x3 M) := by
  unfold bX11_findHeld_69
  refine b_iload_n hO dX11_findHeld_69 3 rfl rfl ?_
  refine b_aload_n hO dX11_findHeld_70 0 rfl rfl ?_
  refine b_getR hO flX11_19 kLX_0 (id := 1) rfl rfl (rk := 9) rfl (by decide) dX11_findHeld_71 (fun hg1 => ?_)
  refine b_get hO flX11_136 hg1 (v := .int (gI _ (128 * (gR M 1) + 1))) rfl dX11_findHeld_74 ?_
  refine b_icmp_ge hO dX11_findHeld_77 (tgt := 159) (by decide) ?_ ?_
  · refine b_iload_n hO dX11_findHeld_159 2 rfl rfl ?_
    exact b_iret hO dX11_findHeld_160
  · refine b_aload_n hO dX11_findHeld_80 0 rfl rfl ?_
    refine b_get hO flX11_40 kLX_0 (v := .ref (ad 7)) rfl dX11_findHeld_81 ?_
    refine b_iload_n hO dX11_findHeld_84 1 rfl rfl ?_
    refine b_iload_n hO dX11_findHeld_85 3 rfl rfl ?_
    refine b_iconst hO dX11_findHeld_86 ic_i_0 ?_
    refine b_aload_n hO dX11_findHeld_87 0 rfl rfl ?_
    refine b_get hO flX11_47 kLX_0 (v := .ref (ad 10)) rfl dX11_findHeld_88 ?_
    refine b_get hO flX11_148 kLX_10 (v := .int (gI _ 1281)) rfl dX11_findHeld_91 ?_
    refine b_callVV hO mdX1_hold mvX1_hold w952 (ci := 1) rfl rfl (by decide) kLX_7 (As := [.int _, .int _, .int _, .int _]) (st := []) (ctX1_hold n0 hO.2.2.2.2.2.2.1 _ _ _ _ _) (Nat.le_of_ble_eq_true rfl) rfl rfl (Nat.le_of_ble_eq_true rfl) dX11_findHeld_94 (fun z94 => ?_)
    refine b_aload_n hO dX11_findHeld_97 0 rfl rfl ?_
    refine b_get hO flX11_40 kLX_0 (v := .ref (ad 7)) rfl dX11_findHeld_98 ?_
    refine b_aload_n hO dX11_findHeld_101 0 rfl rfl ?_
    refine b_get hO flX11_72 kLX_0 (v := .ref (ad 26)) rfl dX11_findHeld_102 ?_
    refine b_bipush hO dX11_findHeld_105 ic_b_40 ?_
    refine b_callVI hO mdX1_foresee mvX1_foresee w970 (ci := 1) rfl rfl (by decide) kLX_7 (As := [.ref _, .int _]) (st := []) (ctX1_foresee n0 _ kLX_26 hO.2.2.2.2.2.2.1 _ _) (Nat.le_of_ble_eq_true rfl) rfl rfl (Nat.le_of_ble_eq_true rfl) dX11_findHeld_107 (fun z107 => ?_)
    refine b_istore hO dX11_findHeld_110 (by decide) (lv' := [(4, .int _), (0, .ref _), (1, .int _), (2, .int _), (3, .int _)]) rfl ?_
    refine b_aload_n hO dX11_findHeld_112 1 rfl rfl ?_
    refine b_get hO flX11_68 kLX_0 (v := .ref (ad 21)) rfl dX11_findHeld_113 ?_
    refine b_iload_n hO dX11_findHeld_116 4 rfl rfl ?_
    refine b_iconst hO dX11_findHeld_117 ic_i_1 ?_
    refine b_iadd hO dX11_findHeld_118 ?_
    refine b_aload_n hO dX11_findHeld_119 1 rfl rfl ?_
    refine b_get hO flX11_72 kLX_0 (v := .ref (ad 26)) rfl dX11_findHeld_120 ?_
    refine b_iload hO dX11_findHeld_123 0 rfl ?_
    refine b_callVV hO mdX5_noteHours mvX5_noteHours w1110 (ci := 5) rfl rfl (by decide) kLX_21 (As := [.int _, .ref _, .int _]) (st := []) (ctX5_noteHours n0 _ kLX_26 hO.2.2.2.2.2.2.1 _ _ _) (Nat.le_of_ble_eq_true rfl) rfl rfl (Nat.le_of_ble_eq_true rfl) dX11_findHeld_125 (fun z125 => ?_)
    refine b_aload_n hO dX11_findHeld_128 1 rfl rfl ?_
    refine b_get hO flX11_68 kLX_0 (v := .ref (ad 21)) rfl dX11_findHeld_129 ?_
    refine b_iload_n hO dX11_findHeld_132 2 rfl rfl ?_
    refine b_aload_n hO dX11_findHeld_133 1 rfl rfl ?_
    refine b_get hO flX11_72 kLX_0 (v := .ref (ad 26)) rfl dX11_findHeld_134 ?_
    refine b_iload hO dX11_findHeld_137 0 rfl ?_
    refine b_callVI hO mdX5_isSo mvX5_isSo w1106 (ci := 5) rfl rfl (by decide) kLX_21 (As := [.int _, .ref _, .int _]) (st := []) (ctX5_isSo n0 _ kLX_26 hO.2.2.2.2.2.2.1 _ _ _) (Nat.le_of_ble_eq_true rfl) rfl rfl (Nat.le_of_ble_eq_true rfl) dX11_findHeld_139 (fun z139 => ?_)
    refine b_if_eq hO dX11_findHeld_142 (tgt := 153) (by decide) ?_ ?_
    · refine b_sub [1, 2, 3, 4] rfl ?_
      exact tfX11_findHeld_153 n0 hO k69 hk69 _ _ _ _
    · refine b_iload_n hO dX11_findHeld_145 3 rfl rfl ?_
      refine b_iconst hO dX11_findHeld_146 ic_i_1 ?_
      refine b_iload_n hO dX11_findHeld_147 4 rfl rfl ?_
      refine b_iconst hO dX11_findHeld_148 ic_i_1 ?_
      refine b_iadd hO dX11_findHeld_149 ?_
      refine b_ishl hO dX11_findHeld_150 ?_
      refine b_ior hO dX11_findHeld_151 ?_
      refine b_topI (fun x2_152 => ?_)
      refine b_istore_n hO dX11_findHeld_152 rfl (by decide) (lv' := [(2, .int _), (4, .int _), (0, .ref _), (1, .int _), (3, .int _)]) rfl ?_
      refine b_sub [2, 3, 0, 4] rfl ?_
      exact tfX11_findHeld_153 n0 hO k69 hk69 _ _ _ _
theorem lX11_findHeld_69 (n0 : Nat) (hO : OKc p (rmL 7) s m args meth c LX D cy ad cX11_findHeld RX11 5 7 (some .int)) : ∀ (w : Nat) (x1 : Int32) (x2 : Int32) (x3 : Int32) (M : Mem), BL p l e (rmL 7) s m args below meth c LX D cy ad 5 (QI LX D cy ad) 69 [(0, .ref (ad 0)), (1, .int x1), (2, .int x2), (3, .int x3)] [] M (loopN (bX11_findHeld_69 n0) (fun _ _ _ _ => none) w x1 x2 x3 M) := by
  intro w
  induction w with
  | zero =>
    intros
    exact b_none
  | succ w ih =>
    intro x1 x2 x3 M
    exact tbX11_findHeld_69 n0 hO _ ih x1 x2 x3 M
theorem tfX11_findHeld_69 (n0 : Nat) (hO : OKc p (rmL 7) s m args meth c LX D cy ad cX11_findHeld RX11 5 7 (some .int)) (x1 : Int32) (x2 : Int32) (x3 : Int32) (M : Mem) : BL p l e (rmL 7) s m args below meth c LX D cy ad 5 (QI LX D cy ad) 69 [(0, .ref (ad 0)), (1, .int x1), (2, .int x2), (3, .int x3)] [] M (fX11_findHeld_69 n0 x1 x2 x3 M) := lX11_findHeld_69 n0 hO n0 x1 x2 x3 M
theorem tbX11_findHeld_2 (n0 : Nat) (hO : OKc p (rmL 7) s m args meth c LX D cy ad cX11_findHeld RX11 5 7 (some .int)) (k2 : Int32 → Int32 → Mem → Option (Int32 × Mem)) (hk2 : ∀ (x1 : Int32) (x2 : Int32) (M : Mem), BL p l e (rmL 7) s m args below meth c LX D cy ad 5 (QI LX D cy ad) 2 [(0, .ref (ad 0)), (1, .int x1), (2, .int x2)] [] M (k2 x1 x2 M)) (x1 : Int32) (x2 : Int32) (M : Mem) : BL p l e (rmL 7) s m args below meth c LX D cy ad 5 (QI LX D cy ad) 2 [(0, .ref (ad 0)), (1, .int x1), (2, .int x2)] [] M (bX11_findHeld_2 n0 k2 x1 x2 M) := by
  unfold bX11_findHeld_2
  refine b_iload_n hO dX11_findHeld_2 2 rfl rfl ?_
  refine b_aload_n hO dX11_findHeld_3 0 rfl rfl ?_
  refine b_getR hO flX11_19 kLX_0 (id := 1) rfl rfl (rk := 9) rfl (by decide) dX11_findHeld_4 (fun hg1 => ?_)
  refine b_get hO flX11_139 hg1 (v := .int (gI _ (128 * (gR M 1) + 5))) rfl dX11_findHeld_7 ?_
  refine b_icmp_ge hO dX11_findHeld_10 (tgt := 65) (by decide) ?_ ?_
  · refine b_iconst hO dX11_findHeld_65 ic_i_0 ?_
    refine b_istore_n hO dX11_findHeld_66 rfl (by decide) (lv' := [(2, .int _), (0, .ref _), (1, .int _)]) rfl ?_
    refine b_iconst hO dX11_findHeld_67 ic_i_m1 ?_
    refine b_istore_n hO dX11_findHeld_68 rfl (by decide) (lv' := [(3, .int _), (2, .int _), (0, .ref _), (1, .int _)]) rfl ?_
    refine b_sub [2, 3, 1, 0] rfl ?_
    exact tfX11_findHeld_69 n0 hO _ _ _ _
  · refine b_iload_n hO dX11_findHeld_13 2 rfl rfl ?_
    refine b_iload_n hO dX11_findHeld_14 1 rfl rfl ?_
    refine b_icmp_eq hO dX11_findHeld_15 (tgt := 59) (by decide) ?_ ?_
    · exact tfX11_findHeld_59 n0 hO k2 hk2 _ _ _
    · refine b_aload_n hO dX11_findHeld_18 0 rfl rfl ?_
      refine b_get hO flX11_68 kLX_0 (v := .ref (ad 21)) rfl dX11_findHeld_19 ?_
      refine b_iload_n hO dX11_findHeld_22 2 rfl rfl ?_
      refine b_callVI hO mdX5_isAbout mvX5_isAbout w1102 (ci := 5) rfl rfl (by decide) kLX_21 (As := [.int _]) (st := []) (ctX5_isAbout n0 hO.2.2.2.2.2.2.1 _ _) (Nat.le_of_ble_eq_true rfl) rfl rfl (Nat.le_of_ble_eq_true rfl) dX11_findHeld_23 (fun z23 => ?_)
      refine b_if_eq hO dX11_findHeld_26 (tgt := 59) (by decide) ?_ ?_
      · exact tfX11_findHeld_59 n0 hO k2 hk2 _ _ _
      · refine b_aload_n hO dX11_findHeld_29 0 rfl rfl ?_
        refine b_iload_n hO dX11_findHeld_30 2 rfl rfl ?_
        refine b_aload_n hO dX11_findHeld_31 0 rfl rfl ?_
        refine b_get hO flX11_72 kLX_0 (v := .ref (ad 26)) rfl dX11_findHeld_32 ?_
        refine b_bipush hO dX11_findHeld_35 ic_b_40 ?_
        refine b_callVI hO mdX11_foresee mvX11_foresee w966 (ci := 11) rfl rfl (by decide) kLX_0 (As := [.int _, .ref _, .int _]) (st := []) (ctX11_foresee n0 _ kLX_26 hO.2.2.2.2.2.2.1 _ _ _) (Nat.le_of_ble_eq_true rfl) rfl rfl (Nat.le_of_ble_eq_true rfl) dX11_findHeld_37 (fun z37 => ?_)
        refine b_istore_n hO dX11_findHeld_40 rfl (by decide) (lv' := [(3, .int _), (0, .ref _), (1, .int _), (2, .int _)]) rfl ?_
        refine b_aload_n hO dX11_findHeld_41 1 rfl rfl ?_
        refine b_get hO flX11_68 kLX_0 (v := .ref (ad 21)) rfl dX11_findHeld_42 ?_
        refine b_iload_n hO dX11_findHeld_45 3 rfl rfl ?_
        refine b_aload_n hO dX11_findHeld_46 1 rfl rfl ?_
        refine b_get hO flX11_72 kLX_0 (v := .ref (ad 26)) rfl dX11_findHeld_47 ?_
        refine b_iload_n hO dX11_findHeld_50 0 rfl rfl ?_
        refine b_callVI hO mdX5_isSo mvX5_isSo w1106 (ci := 5) rfl rfl (by decide) kLX_21 (As := [.int _, .ref _, .int _]) (st := []) (ctX5_isSo n0 _ kLX_26 hO.2.2.2.2.2.2.1 _ _ _) (Nat.le_of_ble_eq_true rfl) rfl rfl (Nat.le_of_ble_eq_true rfl) dX11_findHeld_51 (fun z51 => ?_)
        refine b_if_ne hO dX11_findHeld_54 (tgt := 59) (by decide) ?_ ?_
        · refine b_sub [1, 2, 3] rfl ?_
          exact tfX11_findHeld_59 n0 hO k2 hk2 _ _ _
        · refine b_iconst hO dX11_findHeld_57 ic_i_0 ?_
          exact b_iret hO dX11_findHeld_58
theorem lX11_findHeld_2 (n0 : Nat) (hO : OKc p (rmL 7) s m args meth c LX D cy ad cX11_findHeld RX11 5 7 (some .int)) : ∀ (w : Nat) (x1 : Int32) (x2 : Int32) (M : Mem), BL p l e (rmL 7) s m args below meth c LX D cy ad 5 (QI LX D cy ad) 2 [(0, .ref (ad 0)), (1, .int x1), (2, .int x2)] [] M (loopN (bX11_findHeld_2 n0) (fun _ _ _ => none) w x1 x2 M) := by
  intro w
  induction w with
  | zero =>
    intros
    exact b_none
  | succ w ih =>
    intro x1 x2 M
    exact tbX11_findHeld_2 n0 hO _ ih x1 x2 M
theorem tfX11_findHeld_2 (n0 : Nat) (hO : OKc p (rmL 7) s m args meth c LX D cy ad cX11_findHeld RX11 5 7 (some .int)) (x1 : Int32) (x2 : Int32) (M : Mem) : BL p l e (rmL 7) s m args below meth c LX D cy ad 5 (QI LX D cy ad) 2 [(0, .ref (ad 0)), (1, .int x1), (2, .int x2)] [] M (fX11_findHeld_2 n0 x1 x2 M) := lX11_findHeld_2 n0 hO n0 x1 x2 M
theorem tfX11_findHeld (n0 : Nat) (hO : OKc p (rmL 7) s m args meth c LX D cy ad cX11_findHeld RX11 5 7 (some .int)) (x1 : Int32) (M : Mem) : BL p l e (rmL 7) s m args below meth c LX D cy ad 5 (QI LX D cy ad) 0 [(0, .ref (ad 0)), (1, .int x1)] [] M (fX11_findHeld n0 x1 M) := by
  unfold fX11_findHeld
  refine b_iconst hO dX11_findHeld_0 ic_i_0 ?_
  refine b_istore_n hO dX11_findHeld_1 rfl (by decide) (lv' := [(2, .int _), (0, .ref _), (1, .int _)]) rfl ?_
  refine b_sub [1, 2, 0] rfl ?_
  exact tfX11_findHeld_2 n0 hO _ _ _
theorem ctX11_findHeld (n0 : Nat) (hI : Inj LX ad) (x1 : Int32) (M : Mem) : CT l LX D cy ad yX11_findHeld cX11_findHeld 5 (some .int) 7 (QI LX D cy ad) [.ref (ad 0), .int x1] M (fX11_findHeld n0 x1 M) :=
  CT.mk LXok hI (by decide) (Nat.le_of_ble_eq_true rfl) (fun hO => tfX11_findHeld n0 hO x1 M)
/-! X11_held -/
def fX11_held (n0 : Nat) (x1 : Int32) (M : Mem) : Option (Int32 × Mem) :=
  (fX9_isCorner n0 (gR M 1) x1 M).bind fun z5 =>
  if z5.1 = 0 then
    some ((-1 : Int32), z5.2)
  else
    (fX11_findHeld n0 x1 z5.2).bind fun z15 =>
    some (z15.1, z15.2)
theorem tfX11_held (n0 : Nat) (hO : OKc p (rmL 8) s m args meth c LX D cy ad cX11_held RX11 2 8 (some .int)) (x1 : Int32) (M : Mem) : BL p l e (rmL 8) s m args below meth c LX D cy ad 2 (QI LX D cy ad) 0 [(0, .ref (ad 0)), (1, .int x1)] [] M (fX11_held n0 x1 M) := by
  unfold fX11_held
  refine b_aload_n hO dX11_held_0 0 rfl rfl ?_
  refine b_getR hO flX11_19 kLX_0 (id := 1) rfl rfl (rk := 9) rfl (by decide) dX11_held_1 (fun hg1 => ?_)
  refine b_iload_n hO dX11_held_4 1 rfl rfl ?_
  refine b_callVI hO mdX9_isCorner mvX9_isCorner w928 (ci := 9) rfl rfl (by decide) hg1 (As := [.int _]) (st := []) (ctX9_isCorner n0 _ hg1 hO.2.2.2.2.2.2.1 _ _) (Nat.le_of_ble_eq_true rfl) rfl rfl (Nat.le_of_ble_eq_true rfl) dX11_held_5 (fun z5 => ?_)
  refine b_if_ne hO dX11_held_8 (tgt := 13) (by decide) ?_ ?_
  · refine b_aload_n hO dX11_held_13 0 rfl rfl ?_
    refine b_iload_n hO dX11_held_14 1 rfl rfl ?_
    refine b_callVI hO mdX11_findHeld mvX11_findHeld w1098 (ci := 11) rfl rfl (by decide) kLX_0 (As := [.int _]) (st := []) (ctX11_findHeld n0 hO.2.2.2.2.2.2.1 _ _) (Nat.le_of_ble_eq_true rfl) rfl rfl (Nat.le_of_ble_eq_true rfl) dX11_held_15 (fun z15 => ?_)
    exact b_iret hO dX11_held_18
  · refine b_iconst hO dX11_held_11 ic_i_m1 ?_
    exact b_iret hO dX11_held_12
theorem ctX11_held (n0 : Nat) (hI : Inj LX ad) (x1 : Int32) (M : Mem) : CT l LX D cy ad yX11_held cX11_held 2 (some .int) 8 (QI LX D cy ad) [.ref (ad 0), .int x1] M (fX11_held n0 x1 M) :=
  CT.mk LXok hI (by decide) (Nat.le_of_ble_eq_true rfl) (fun hO => tfX11_held n0 hO x1 M)
/-! X11_tells -/
def fX11_tells_103 (n0 : Nat) (k69 : Int32 → Int32 → Int32 → Int32 → Int32 → Int32 → Mem → Option (Int32 × Mem)) (x2 : Int32) (x3 : Int32) (x4 : Int32) (x5 : Int32) (x6 : Int32) (x7 : Int32) (M : Mem) : Option (Int32 × Mem) :=
  k69 x2 x3 x4 x5 x6 (x7 + (1 : Int32)) M
def bX11_tells_69 (n0 : Nat) (k69 : Int32 → Int32 → Int32 → Int32 → Int32 → Int32 → Mem → Option (Int32 × Mem)) (x2 : Int32) (x3 : Int32) (x4 : Int32) (x5 : Int32) (x6 : Int32) (x7 : Int32) (M : Mem) : Option (Int32 × Mem) :=
  if x4 < x7 then
    if x2 = 0 then
      some (x5, M)
    else
      some (x6, M)
  else
    (fX5_mostLeft n0 x3 x7 M).bind fun z83 =>
    if x6 ≤ z83.1 then
      fX11_tells_103 n0 k69 x2 x3 x4 x5 x6 x7 z83.2
    else
      fX11_tells_103 n0 k69 x2 x3 x4 x7 z83.1 x7 z83.2
def fX11_tells_69 (n0 : Nat) : Int32 → Int32 → Int32 → Int32 → Int32 → Int32 → Mem → Option (Int32 × Mem) := loopN (bX11_tells_69 n0) (fun _ _ _ _ _ _ _ => none) n0
def fX11_tells (n0 : Nat) (x1 : Int32) (x2 : Int32) (M : Mem) : Option (Int32 × Mem) :=
  (fX9_isCorner n0 (gR M 1) x1 M).bind fun z5 =>
  if z5.1 = 0 then
    some ((-1 : Int32), z5.2)
  else
    if x2 < 0 then
      some ((-1 : Int32), z5.2)
    else
      if x2 ≤ (1 : Int32) then
        (fX11_findHeld n0 x1 z5.2).bind fun z24 =>
        if z24.1 = 0 then
          some ((-1 : Int32), z24.2)
        else
          bnd (imin (40 : Int32) ((9999 : Int32) - (gI z24.2 1281))) fun x4_50 =>
          (fX5_mostLeft n0 z24.1 (0 : Int32) z24.2).bind fun z61 =>
          fX11_tells_69 n0 x2 z24.1 x4_50 (0 : Int32) z61.1 (1 : Int32) z61.2
      else
        some ((-1 : Int32), z5.2)
theorem tfX11_tells_103 (n0 : Nat) (hO : OKc p (rmL 8) s m args meth c LX D cy ad cX11_tells RX11 9 8 (some .int)) (k69 : Int32 → Int32 → Int32 → Int32 → Int32 → Int32 → Mem → Option (Int32 × Mem)) (hk69 : ∀ (x2 : Int32) (x3 : Int32) (x4 : Int32) (x5 : Int32) (x6 : Int32) (x7 : Int32) (M : Mem), BL p l e (rmL 8) s m args below meth c LX D cy ad 9 (QI LX D cy ad) 69 [(0, .ref (ad 0)), (2, .int x2), (3, .int x3), (4, .int x4), (5, .int x5), (6, .int x6), (7, .int x7)] [] M (k69 x2 x3 x4 x5 x6 x7 M)) (x2 : Int32) (x3 : Int32) (x4 : Int32) (x5 : Int32) (x6 : Int32) (x7 : Int32) (M : Mem) : BL p l e (rmL 8) s m args below meth c LX D cy ad 9 (QI LX D cy ad) 103 [(0, .ref (ad 0)), (2, .int x2), (3, .int x3), (4, .int x4), (5, .int x5), (6, .int x6), (7, .int x7)] [] M (fX11_tells_103 n0 k69 x2 x3 x4 x5 x6 x7 M) := by
  unfold fX11_tells_103
  refine b_iinc hO dX11_tells_103 6 rfl ic_i_1 (by decide) (lv' := [(7, .int _), (0, .ref _), (2, .int _), (3, .int _), (4, .int _), (5, .int _), (6, .int _)]) rfl ?_
  refine b_goto hO dX11_tells_106 (tgt := 69) (by decide) ?_
  refine b_sub [1, 2, 3, 4, 5, 6, 0] rfl ?_
  exact hk69 _ _ _ _ _ _ _
theorem tbX11_tells_69 (n0 : Nat) (hO : OKc p (rmL 8) s m args meth c LX D cy ad cX11_tells RX11 9 8 (some .int)) (k69 : Int32 → Int32 → Int32 → Int32 → Int32 → Int32 → Mem → Option (Int32 × Mem)) (hk69 : ∀ (x2 : Int32) (x3 : Int32) (x4 : Int32) (x5 : Int32) (x6 : Int32) (x7 : Int32) (M : Mem), BL p l e (rmL 8) s m args below meth c LX D cy ad 9 (QI LX D cy ad) 69 [(0, .ref (ad 0)), (2, .int x2), (3, .int x3), (4, .int x4), (5, .int x5), (6, .int x6), (7, .int x7)] [] M (k69 x2 x3 x4 x5 x6 x7 M)) (x2 : Int32) (x3 : Int32) (x4 : Int32) (x5 : Int32) (x6 : Int32) (x7 : Int32) (M : Mem) : BL p l e (rmL 8) s m args below meth c LX D cy ad 9 (QI LX D cy ad) 69 [(0, .ref (ad 0)), (2, .int x2), (3, .int x3), (4, .int x4), (5, .int x5), (6, .int x6), (7, .int x7)] [] M (bX11_tells_69 n0 k69 x2 x3 x4 x5 x6 x7 M) := by
  unfold bX11_tells_69
  refine b_iload hO dX11_tells_69 6 rfl ?_
  refine b_iload hO dX11_tells_71 3 rfl ?_
  refine b_icmp_gt hO dX11_tells_73 (tgt := 109) (by decide) ?_ ?_
  · refine b_iload_n hO dX11_tells_109 1 rfl rfl ?_
    refine b_if_ne hO dX11_tells_110 (tgt := 118) (by decide) ?_ ?_
    · refine b_iload hO dX11_tells_118 5 rfl ?_
      exact b_iret hO dX11_tells_120
    · refine b_iload hO dX11_tells_113 4 rfl ?_
      refine b_goto hO dX11_tells_115 (tgt := 120) (by decide) ?_
      exact b_iret hO dX11_tells_120
  · refine b_aload_n hO dX11_tells_76 0 rfl rfl ?_
    refine b_get hO flX11_68 kLX_0 (v := .ref (ad 21)) rfl dX11_tells_77 ?_
    refine b_iload_n hO dX11_tells_80 2 rfl rfl ?_
    refine b_iload hO dX11_tells_81 6 rfl ?_
    refine b_callVI hO mdX5_mostLeft mvX5_mostLeft w1119 (ci := 5) rfl rfl (by decide) kLX_21 (As := [.int _, .int _]) (st := []) (ctX5_mostLeft n0 hO.2.2.2.2.2.2.1 _ _ _) (Nat.le_of_ble_eq_true rfl) rfl rfl (Nat.le_of_ble_eq_true rfl) dX11_tells_83 (fun z83 => ?_)
    refine b_istore hO dX11_tells_86 (by decide) (lv' := [(8, .int _), (0, .ref _), (2, .int _), (3, .int _), (4, .int _), (5, .int _), (6, .int _), (7, .int _)]) rfl ?_
    refine b_iload hO dX11_tells_88 0 rfl ?_
    refine b_iload hO dX11_tells_90 6 rfl ?_
    refine b_icmp_ge hO dX11_tells_92 (tgt := 103) (by decide) ?_ ?_
    · refine b_sub [1, 2, 3, 4, 5, 6, 7] rfl ?_
      exact tfX11_tells_103 n0 hO k69 hk69 _ _ _ _ _ _ _
    · refine b_iload hO dX11_tells_95 7 rfl ?_
      refine b_istore hO dX11_tells_97 (by decide) (lv' := [(5, .int _), (8, .int _), (0, .ref _), (2, .int _), (3, .int _), (4, .int _), (6, .int _), (7, .int _)]) rfl ?_
      refine b_iload hO dX11_tells_99 1 rfl ?_
      refine b_istore hO dX11_tells_101 (by decide) (lv' := [(6, .int _), (5, .int _), (8, .int _), (0, .ref _), (2, .int _), (3, .int _), (4, .int _), (7, .int _)]) rfl ?_
      refine b_sub [3, 4, 5, 6, 1, 0, 7] rfl ?_
      exact tfX11_tells_103 n0 hO k69 hk69 _ _ _ _ _ _ _
theorem lX11_tells_69 (n0 : Nat) (hO : OKc p (rmL 8) s m args meth c LX D cy ad cX11_tells RX11 9 8 (some .int)) : ∀ (w : Nat) (x2 : Int32) (x3 : Int32) (x4 : Int32) (x5 : Int32) (x6 : Int32) (x7 : Int32) (M : Mem), BL p l e (rmL 8) s m args below meth c LX D cy ad 9 (QI LX D cy ad) 69 [(0, .ref (ad 0)), (2, .int x2), (3, .int x3), (4, .int x4), (5, .int x5), (6, .int x6), (7, .int x7)] [] M (loopN (bX11_tells_69 n0) (fun _ _ _ _ _ _ _ => none) w x2 x3 x4 x5 x6 x7 M) := by
  intro w
  induction w with
  | zero =>
    intros
    exact b_none
  | succ w ih =>
    intro x2 x3 x4 x5 x6 x7 M
    exact tbX11_tells_69 n0 hO _ ih x2 x3 x4 x5 x6 x7 M
theorem tfX11_tells_69 (n0 : Nat) (hO : OKc p (rmL 8) s m args meth c LX D cy ad cX11_tells RX11 9 8 (some .int)) (x2 : Int32) (x3 : Int32) (x4 : Int32) (x5 : Int32) (x6 : Int32) (x7 : Int32) (M : Mem) : BL p l e (rmL 8) s m args below meth c LX D cy ad 9 (QI LX D cy ad) 69 [(0, .ref (ad 0)), (2, .int x2), (3, .int x3), (4, .int x4), (5, .int x5), (6, .int x6), (7, .int x7)] [] M (fX11_tells_69 n0 x2 x3 x4 x5 x6 x7 M) := lX11_tells_69 n0 hO n0 x2 x3 x4 x5 x6 x7 M
theorem tfX11_tells (n0 : Nat) (hO : OKc p (rmL 8) s m args meth c LX D cy ad cX11_tells RX11 9 8 (some .int)) (x1 : Int32) (x2 : Int32) (M : Mem) : BL p l e (rmL 8) s m args below meth c LX D cy ad 9 (QI LX D cy ad) 0 [(0, .ref (ad 0)), (1, .int x1), (2, .int x2)] [] M (fX11_tells n0 x1 x2 M) := by
  unfold fX11_tells
  refine b_aload_n hO dX11_tells_0 0 rfl rfl ?_
  refine b_getR hO flX11_19 kLX_0 (id := 1) rfl rfl (rk := 9) rfl (by decide) dX11_tells_1 (fun hg1 => ?_)
  refine b_iload_n hO dX11_tells_4 1 rfl rfl ?_
  refine b_callVI hO mdX9_isCorner mvX9_isCorner w928 (ci := 9) rfl rfl (by decide) hg1 (As := [.int _]) (st := []) (ctX9_isCorner n0 _ hg1 hO.2.2.2.2.2.2.1 _ _) (Nat.le_of_ble_eq_true rfl) rfl rfl (Nat.le_of_ble_eq_true rfl) dX11_tells_5 (fun z5 => ?_)
  refine b_if_eq hO dX11_tells_8 (tgt := 20) (by decide) ?_ ?_
  · refine b_iconst hO dX11_tells_20 ic_i_m1 ?_
    exact b_iret hO dX11_tells_21
  · refine b_iload_n hO dX11_tells_11 2 rfl rfl ?_
    refine b_if_lt hO dX11_tells_12 (tgt := 20) (by decide) ?_ ?_
    · refine b_iconst hO dX11_tells_20 ic_i_m1 ?_
      exact b_iret hO dX11_tells_21
    · refine b_iload_n hO dX11_tells_15 2 rfl rfl ?_
      refine b_iconst hO dX11_tells_16 ic_i_1 ?_
      refine b_icmp_le hO dX11_tells_17 (tgt := 22) (by decide) ?_ ?_
      · refine b_aload_n hO dX11_tells_22 0 rfl rfl ?_
        refine b_iload_n hO dX11_tells_23 1 rfl rfl ?_
        refine b_callVI hO mdX11_findHeld mvX11_findHeld w1098 (ci := 11) rfl rfl (by decide) kLX_0 (As := [.int _]) (st := []) (ctX11_findHeld n0 hO.2.2.2.2.2.2.1 _ _) (Nat.le_of_ble_eq_true rfl) rfl rfl (Nat.le_of_ble_eq_true rfl) dX11_tells_24 (fun z24 => ?_)
        refine b_istore_n hO dX11_tells_27 rfl (by decide) (lv' := [(3, .int _), (0, .ref _), (1, .int _), (2, .int _)]) rfl ?_
        refine b_iload_n hO dX11_tells_28 0 rfl rfl ?_
        refine b_if_ne hO dX11_tells_29 (tgt := 34) (by decide) ?_ ?_
        · refine b_bipush hO dX11_tells_34 ic_b_40 ?_
          refine b_sipush hO dX11_tells_36 ic_s_9999 ?_
          refine b_aload_n hO dX11_tells_39 1 rfl rfl ?_
          refine b_get hO flX11_47 kLX_0 (v := .ref (ad 10)) rfl dX11_tells_40 ?_
          refine b_get hO flX11_148 kLX_10 (v := .int (gI _ 1281)) rfl dX11_tells_43 ?_
          refine b_isub hO dX11_tells_46 ?_
          refine b_mmin hO w1118 w591 w136 wm592 (by first | decide | omega) (Nat.le_of_ble_eq_true rfl) dX11_tells_47 ?_
          refine b_topI (fun x4_50 => ?_)
          refine b_istore hO dX11_tells_50 (by decide) (lv' := [(4, .int _), (3, .int _), (0, .ref _), (1, .int _), (2, .int _)]) rfl ?_
          refine b_iconst hO dX11_tells_52 ic_i_0 ?_
          refine b_istore hO dX11_tells_53 (by decide) (lv' := [(5, .int _), (4, .int _), (3, .int _), (0, .ref _), (1, .int _), (2, .int _)]) rfl ?_
          refine b_aload_n hO dX11_tells_55 3 rfl rfl ?_
          refine b_get hO flX11_68 kLX_0 (v := .ref (ad 21)) rfl dX11_tells_56 ?_
          refine b_iload_n hO dX11_tells_59 2 rfl rfl ?_
          refine b_iconst hO dX11_tells_60 ic_i_0 ?_
          refine b_callVI hO mdX5_mostLeft mvX5_mostLeft w1119 (ci := 5) rfl rfl (by decide) kLX_21 (As := [.int _, .int _]) (st := []) (ctX5_mostLeft n0 hO.2.2.2.2.2.2.1 _ _ _) (Nat.le_of_ble_eq_true rfl) rfl rfl (Nat.le_of_ble_eq_true rfl) dX11_tells_61 (fun z61 => ?_)
          refine b_istore hO dX11_tells_64 (by decide) (lv' := [(6, .int _), (5, .int _), (4, .int _), (3, .int _), (0, .ref _), (1, .int _), (2, .int _)]) rfl ?_
          refine b_iconst hO dX11_tells_66 ic_i_1 ?_
          refine b_istore hO dX11_tells_67 (by decide) (lv' := [(7, .int _), (6, .int _), (5, .int _), (4, .int _), (3, .int _), (0, .ref _), (1, .int _), (2, .int _)]) rfl ?_
          refine b_sub [5, 7, 4, 3, 2, 1, 0] rfl ?_
          exact tfX11_tells_69 n0 hO _ _ _ _ _ _ _
        · refine b_iconst hO dX11_tells_32 ic_i_m1 ?_
          exact b_iret hO dX11_tells_33
      · refine b_iconst hO dX11_tells_20 ic_i_m1 ?_
        exact b_iret hO dX11_tells_21
theorem ctX11_tells (n0 : Nat) (hI : Inj LX ad) (x1 : Int32) (x2 : Int32) (M : Mem) : CT l LX D cy ad yX11_tells cX11_tells 9 (some .int) 8 (QI LX D cy ad) [.ref (ad 0), .int x1, .int x2] M (fX11_tells n0 x1 x2 M) :=
  CT.mk LXok hI (by decide) (Nat.le_of_ble_eq_true rfl) (fun hO => tfX11_tells n0 hO x1 x2 M)
end
end
