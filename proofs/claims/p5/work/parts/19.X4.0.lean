section
variable {p : Program} {l : Launch} {e : Env} {s : State} {m : MethodId} {args : Array Value} {below : List Frame} {meth : Method} {c : Code} {D : va_G} {cy : Nat → ClassId} {ad : Nat → Nat} {dd : Nat}

/-! X4_skipFirst -/
def fX4_skipFirst (n0 : Nat) (x1 : Int32) (M : Mem) : Option (Int32 × Mem) :=
  if x1 = 0 then
    (fX8_fail n0 (6 : Int32) (gI M 387) M).bind fun z17 =>
    if z17.1 = 0 ∨ z17.1 = 1 then some (z17.1, z17.2) else none
  else
    (fX8_advance n0 M).bind fun z25 =>
    some ((1 : Int32), z25)
theorem tfX4_skipFirst (n0 : Nat) (hO : OKc p (rmL 4) s m args meth c LX D cy ad cX4_skipFirst RX4 2 4 (some .boolean)) (x1 : Int32) (M : Mem) : BL p l e (rmL 4) s m args below meth c LX D cy ad 2 (QI LX D cy ad) 0 [(0, .ref (ad 1)), (1, .int x1)] [] M (fX4_skipFirst n0 x1 M) := by
  unfold fX4_skipFirst
  refine b_iload_n hO dX4_skipFirst_0 1 rfl rfl ?_
  refine b_if_ne hO dX4_skipFirst_1 (tgt := 21) (by decide) ?_ ?_
  · refine b_aload_n hO dX4_skipFirst_21 0 rfl rfl ?_
    refine b_get hO flX4_14 kLX_1 (v := .ref (ad 3)) rfl dX4_skipFirst_22 ?_
    refine b_callVV hO mdX8_advance mvX8_advance w745 (ci := 8) rfl rfl (by decide) kLX_3 (As := []) (st := []) (ctX8_advance n0 hO.2.2.2.2.2.2.1 _) (Nat.le_of_ble_eq_true rfl) rfl rfl (Nat.le_of_ble_eq_true rfl) dX4_skipFirst_25 (fun z25 => ?_)
    refine b_iconst hO dX4_skipFirst_28 ic_i_1 ?_
    exact b_zretc hO (Or.inr rfl) dX4_skipFirst_29
  · refine b_aload_n hO dX4_skipFirst_4 0 rfl rfl ?_
    refine b_get hO flX4_14 kLX_1 (v := .ref (ad 3)) rfl dX4_skipFirst_5 ?_
    refine b_bipush hO dX4_skipFirst_8 ic_b_6 ?_
    refine b_aload_n hO dX4_skipFirst_10 0 rfl rfl ?_
    refine b_get hO flX4_14 kLX_1 (v := .ref (ad 3)) rfl dX4_skipFirst_11 ?_
    refine b_get hO flX4_60 kLX_3 (v := .int (gI _ 387)) rfl dX4_skipFirst_14 ?_
    refine b_callVI hO mdX8_fail mvX8_fail w741 (ci := 8) rfl rfl (by decide) kLX_3 (As := [.int _, .int _]) (st := []) (ctX8_fail n0 hO.2.2.2.2.2.2.1 _ _ _) (Nat.le_of_ble_eq_true rfl) rfl rfl (Nat.le_of_ble_eq_true rfl) dX4_skipFirst_17 (fun z17 => ?_)
    exact b_zret hO dX4_skipFirst_20
theorem ctX4_skipFirst (n0 : Nat) (hI : Inj LX ad) (x1 : Int32) (M : Mem) : CT l LX D cy ad yX4_skipFirst cX4_skipFirst 2 (some .boolean) 4 (QI LX D cy ad) [.ref (ad 1), .int x1] M (fX4_skipFirst n0 x1 M) :=
  CT.mk LXok hI (by decide) (Nat.le_of_ble_eq_true rfl) (fun hO => tfX4_skipFirst n0 hO x1 M)
/-! X4_newName -/
def fX4_newName_67 (n0 : Nat) (M : Mem) : Option (Int32 × Mem) :=
  (fX8_fail n0 (2 : Int32) (gI M 387) M).bind fun z79 =>
  some ((-1 : Int32), z79.2)
def fX4_newName (n0 : Nat) (M : Mem) : Option (Int32 × Mem) :=
  bnd (gI M 389) fun x1_7 =>
  if (gI M 386) = (257 : Int32) then
    (fX9_findThing n0 (gR M 130) x1_7 M).bind fun z36 =>
    if z36.1 = (-1 : Int32) then
      (fX9_findCorner n0 (gR z36.2 130) x1_7 z36.2).bind fun z48 =>
      if z48.1 = (-1 : Int32) then
        (fX9_findDoing n0 (gR z48.2 130) x1_7 z48.2).bind fun z60 =>
        if z60.1 = (-1 : Int32) then
          (fX8_advance n0 z60.2).bind fun z89 =>
          some (x1_7, z89)
        else
          fX4_newName_67 n0 z60.2
      else
        fX4_newName_67 n0 z48.2
    else
      fX4_newName_67 n0 z36.2
  else
    (fX8_failHere n0 M).bind fun z25 =>
    some ((-1 : Int32), z25.2)
theorem tfX4_newName_67 (n0 : Nat) (hO : OKc p (rmL 4) s m args meth c LX D cy ad cX4_newName RX4 2 4 (some .int)) (M : Mem) : BL p l e (rmL 4) s m args below meth c LX D cy ad 2 (QI LX D cy ad) 67 [(0, .ref (ad 1))] [] M (fX4_newName_67 n0 M) := by
  unfold fX4_newName_67
  refine b_aload_n hO dX4_newName_67 0 rfl rfl ?_
  refine b_get hO flX4_14 kLX_1 (v := .ref (ad 3)) rfl dX4_newName_68 ?_
  refine b_iconst hO dX4_newName_71 ic_i_2 ?_
  refine b_aload_n hO dX4_newName_72 0 rfl rfl ?_
  refine b_get hO flX4_14 kLX_1 (v := .ref (ad 3)) rfl dX4_newName_73 ?_
  refine b_get hO flX4_60 kLX_3 (v := .int (gI _ 387)) rfl dX4_newName_76 ?_
  refine b_callVI hO mdX8_fail mvX8_fail w741 (ci := 8) rfl rfl (by decide) kLX_3 (As := [.int _, .int _]) (st := []) (ctX8_fail n0 hO.2.2.2.2.2.2.1 _ _ _) (Nat.le_of_ble_eq_true rfl) rfl rfl (Nat.le_of_ble_eq_true rfl) dX4_newName_79 (fun z79 => ?_)
  refine b_pop hO dX4_newName_82 rfl ?_
  refine b_iconst hO dX4_newName_83 ic_i_m1 ?_
  exact b_iret hO dX4_newName_84
theorem tfX4_newName (n0 : Nat) (hO : OKc p (rmL 4) s m args meth c LX D cy ad cX4_newName RX4 2 4 (some .int)) (M : Mem) : BL p l e (rmL 4) s m args below meth c LX D cy ad 2 (QI LX D cy ad) 0 [(0, .ref (ad 1))] [] M (fX4_newName n0 M) := by
  unfold fX4_newName
  refine b_aload_n hO dX4_newName_0 0 rfl rfl ?_
  refine b_get hO flX4_14 kLX_1 (v := .ref (ad 3)) rfl dX4_newName_1 ?_
  refine b_get hO flX4_151 kLX_3 (v := .int (gI _ 389)) rfl dX4_newName_4 ?_
  refine b_topI (fun x1_7 => ?_)
  refine b_istore_n hO dX4_newName_7 rfl (by decide) (lv' := [(1, .int _), (0, .ref _)]) rfl ?_
  refine b_aload_n hO dX4_newName_8 1 rfl rfl ?_
  refine b_get hO flX4_14 kLX_1 (v := .ref (ad 3)) rfl dX4_newName_9 ?_
  refine b_get hO flX4_45 kLX_3 (v := .int (gI _ 386)) rfl dX4_newName_12 ?_
  refine b_sipush hO dX4_newName_15 ic_s_257 ?_
  refine b_icmp_eq hO dX4_newName_18 (tgt := 31) (by decide) ?_ ?_
  · refine b_aload_n hO dX4_newName_31 1 rfl rfl ?_
    refine b_getR hO flX4_35 kLX_1 (id := 130) rfl rfl (rk := 9) rfl (by decide) dX4_newName_32 (fun hg1 => ?_)
    refine b_iload_n hO dX4_newName_35 0 rfl rfl ?_
    refine b_callVI hO mdX9_findThing mvX9_findThing w759 (ci := 9) rfl rfl (by decide) hg1 (As := [.int _]) (st := []) (ctX9_findThing n0 _ hg1 hO.2.2.2.2.2.2.1 _ _) (Nat.le_of_ble_eq_true rfl) rfl rfl (Nat.le_of_ble_eq_true rfl) dX4_newName_36 (fun z36 => ?_)
    refine b_iconst hO dX4_newName_39 ic_i_m1 ?_
    refine b_icmp_ne hO dX4_newName_40 (tgt := 67) (by decide) ?_ ?_
    · refine b_sub [1] rfl ?_
      exact tfX4_newName_67 n0 hO _
    · refine b_aload_n hO dX4_newName_43 1 rfl rfl ?_
      refine b_getR hO flX4_35 kLX_1 (id := 130) rfl rfl (rk := 9) rfl (by decide) dX4_newName_44 (fun hg2 => ?_)
      refine b_iload_n hO dX4_newName_47 0 rfl rfl ?_
      refine b_callVI hO mdX9_findCorner mvX9_findCorner w766 (ci := 9) rfl rfl (by decide) hg2 (As := [.int _]) (st := []) (ctX9_findCorner n0 _ hg2 hO.2.2.2.2.2.2.1 _ _) (Nat.le_of_ble_eq_true rfl) rfl rfl (Nat.le_of_ble_eq_true rfl) dX4_newName_48 (fun z48 => ?_)
      refine b_iconst hO dX4_newName_51 ic_i_m1 ?_
      refine b_icmp_ne hO dX4_newName_52 (tgt := 67) (by decide) ?_ ?_
      · refine b_sub [1] rfl ?_
        exact tfX4_newName_67 n0 hO _
      · refine b_aload_n hO dX4_newName_55 1 rfl rfl ?_
        refine b_getR hO flX4_35 kLX_1 (id := 130) rfl rfl (rk := 9) rfl (by decide) dX4_newName_56 (fun hg3 => ?_)
        refine b_iload_n hO dX4_newName_59 0 rfl rfl ?_
        refine b_callVI hO mdX9_findDoing mvX9_findDoing w770 (ci := 9) rfl rfl (by decide) hg3 (As := [.int _]) (st := []) (ctX9_findDoing n0 _ hg3 hO.2.2.2.2.2.2.1 _ _) (Nat.le_of_ble_eq_true rfl) rfl rfl (Nat.le_of_ble_eq_true rfl) dX4_newName_60 (fun z60 => ?_)
        refine b_iconst hO dX4_newName_63 ic_i_m1 ?_
        refine b_icmp_eq hO dX4_newName_64 (tgt := 85) (by decide) ?_ ?_
        · refine b_aload_n hO dX4_newName_85 1 rfl rfl ?_
          refine b_get hO flX4_14 kLX_1 (v := .ref (ad 3)) rfl dX4_newName_86 ?_
          refine b_callVV hO mdX8_advance mvX8_advance w745 (ci := 8) rfl rfl (by decide) kLX_3 (As := []) (st := []) (ctX8_advance n0 hO.2.2.2.2.2.2.1 _) (Nat.le_of_ble_eq_true rfl) rfl rfl (Nat.le_of_ble_eq_true rfl) dX4_newName_89 (fun z89 => ?_)
          refine b_iload_n hO dX4_newName_92 0 rfl rfl ?_
          exact b_iret hO dX4_newName_93
        · refine b_sub [1] rfl ?_
          exact tfX4_newName_67 n0 hO _
  · refine b_aload_n hO dX4_newName_21 1 rfl rfl ?_
    refine b_get hO flX4_14 kLX_1 (v := .ref (ad 3)) rfl dX4_newName_22 ?_
    refine b_callVI hO mdX8_failHere mvX8_failHere w754 (ci := 8) rfl rfl (by decide) kLX_3 (As := []) (st := []) (ctX8_failHere n0 hO.2.2.2.2.2.2.1 _) (Nat.le_of_ble_eq_true rfl) rfl rfl (Nat.le_of_ble_eq_true rfl) dX4_newName_25 (fun z25 => ?_)
    refine b_pop hO dX4_newName_28 rfl ?_
    refine b_iconst hO dX4_newName_29 ic_i_m1 ?_
    exact b_iret hO dX4_newName_30
theorem ctX4_newName (n0 : Nat) (hI : Inj LX ad) (M : Mem) : CT l LX D cy ad yX4_newName cX4_newName 2 (some .int) 4 (QI LX D cy ad) [.ref (ad 1)] M (fX4_newName n0 M) :=
  CT.mk LXok hI (by decide) (Nat.le_of_ble_eq_true rfl) (fun hO => tfX4_newName n0 hO M)
/-! X4_number -/
def fX4_number_41 (n0 : Nat) (M : Mem) : Option (Int32 × Mem) :=
  (fX8_fail n0 (4 : Int32) (gI M 387) M).bind fun z53 =>
  some ((-1 : Int32), z53.2)
def fX4_number (n0 : Nat) (x1 : Int32) (x2 : Int32) (M : Mem) : Option (Int32 × Mem) :=
  bnd (gI M 389) fun x3_7 =>
  if (gI M 386) = (256 : Int32) then
    if x3_7 < x1 then
      fX4_number_41 n0 M
    else
      if x3_7 ≤ x2 then
        (fX8_advance n0 M).bind fun z63 =>
        some (x3_7, z63)
      else
        fX4_number_41 n0 M
  else
    (fX8_failHere n0 M).bind fun z25 =>
    some ((-1 : Int32), z25.2)
theorem tfX4_number_41 (n0 : Nat) (hO : OKc p (rmL 4) s m args meth c LX D cy ad cX4_number RX4 4 4 (some .int)) (M : Mem) : BL p l e (rmL 4) s m args below meth c LX D cy ad 4 (QI LX D cy ad) 41 [(0, .ref (ad 1))] [] M (fX4_number_41 n0 M) := by
  unfold fX4_number_41
  refine b_aload_n hO dX4_number_41 0 rfl rfl ?_
  refine b_get hO flX4_14 kLX_1 (v := .ref (ad 3)) rfl dX4_number_42 ?_
  refine b_iconst hO dX4_number_45 ic_i_4 ?_
  refine b_aload_n hO dX4_number_46 0 rfl rfl ?_
  refine b_get hO flX4_14 kLX_1 (v := .ref (ad 3)) rfl dX4_number_47 ?_
  refine b_get hO flX4_60 kLX_3 (v := .int (gI _ 387)) rfl dX4_number_50 ?_
  refine b_callVI hO mdX8_fail mvX8_fail w741 (ci := 8) rfl rfl (by decide) kLX_3 (As := [.int _, .int _]) (st := []) (ctX8_fail n0 hO.2.2.2.2.2.2.1 _ _ _) (Nat.le_of_ble_eq_true rfl) rfl rfl (Nat.le_of_ble_eq_true rfl) dX4_number_53 (fun z53 => ?_)
  refine b_pop hO dX4_number_56 rfl ?_
  refine b_iconst hO dX4_number_57 ic_i_m1 ?_
  exact b_iret hO dX4_number_58
theorem tfX4_number (n0 : Nat) (hO : OKc p (rmL 4) s m args meth c LX D cy ad cX4_number RX4 4 4 (some .int)) (x1 : Int32) (x2 : Int32) (M : Mem) : BL p l e (rmL 4) s m args below meth c LX D cy ad 4 (QI LX D cy ad) 0 [(0, .ref (ad 1)), (1, .int x1), (2, .int x2)] [] M (fX4_number n0 x1 x2 M) := by
  unfold fX4_number
  refine b_aload_n hO dX4_number_0 0 rfl rfl ?_
  refine b_get hO flX4_14 kLX_1 (v := .ref (ad 3)) rfl dX4_number_1 ?_
  refine b_get hO flX4_151 kLX_3 (v := .int (gI _ 389)) rfl dX4_number_4 ?_
  refine b_topI (fun x3_7 => ?_)
  refine b_istore_n hO dX4_number_7 rfl (by decide) (lv' := [(3, .int _), (0, .ref _), (1, .int _), (2, .int _)]) rfl ?_
  refine b_aload_n hO dX4_number_8 1 rfl rfl ?_
  refine b_get hO flX4_14 kLX_1 (v := .ref (ad 3)) rfl dX4_number_9 ?_
  refine b_get hO flX4_45 kLX_3 (v := .int (gI _ 386)) rfl dX4_number_12 ?_
  refine b_sipush hO dX4_number_15 ic_s_256 ?_
  refine b_icmp_eq hO dX4_number_18 (tgt := 31) (by decide) ?_ ?_
  · refine b_iload_n hO dX4_number_31 0 rfl rfl ?_
    refine b_iload_n hO dX4_number_32 2 rfl rfl ?_
    refine b_icmp_lt hO dX4_number_33 (tgt := 41) (by decide) ?_ ?_
    · refine b_sub [1] rfl ?_
      exact tfX4_number_41 n0 hO _
    · refine b_iload_n hO dX4_number_36 0 rfl rfl ?_
      refine b_iload_n hO dX4_number_37 3 rfl rfl ?_
      refine b_icmp_le hO dX4_number_38 (tgt := 59) (by decide) ?_ ?_
      · refine b_aload_n hO dX4_number_59 1 rfl rfl ?_
        refine b_get hO flX4_14 kLX_1 (v := .ref (ad 3)) rfl dX4_number_60 ?_
        refine b_callVV hO mdX8_advance mvX8_advance w745 (ci := 8) rfl rfl (by decide) kLX_3 (As := []) (st := []) (ctX8_advance n0 hO.2.2.2.2.2.2.1 _) (Nat.le_of_ble_eq_true rfl) rfl rfl (Nat.le_of_ble_eq_true rfl) dX4_number_63 (fun z63 => ?_)
        refine b_iload_n hO dX4_number_66 0 rfl rfl ?_
        exact b_iret hO dX4_number_67
      · refine b_sub [1] rfl ?_
        exact tfX4_number_41 n0 hO _
  · refine b_aload_n hO dX4_number_21 1 rfl rfl ?_
    refine b_get hO flX4_14 kLX_1 (v := .ref (ad 3)) rfl dX4_number_22 ?_
    refine b_callVI hO mdX8_failHere mvX8_failHere w754 (ci := 8) rfl rfl (by decide) kLX_3 (As := []) (st := []) (ctX8_failHere n0 hO.2.2.2.2.2.2.1 _) (Nat.le_of_ble_eq_true rfl) rfl rfl (Nat.le_of_ble_eq_true rfl) dX4_number_25 (fun z25 => ?_)
    refine b_pop hO dX4_number_28 rfl ?_
    refine b_iconst hO dX4_number_29 ic_i_m1 ?_
    exact b_iret hO dX4_number_30
theorem ctX4_number (n0 : Nat) (hI : Inj LX ad) (x1 : Int32) (x2 : Int32) (M : Mem) : CT l LX D cy ad yX4_number cX4_number 4 (some .int) 4 (QI LX D cy ad) [.ref (ad 1), .int x1, .int x2] M (fX4_number n0 x1 x2 M) :=
  CT.mk LXok hI (by decide) (Nat.le_of_ble_eq_true rfl) (fun hO => tfX4_number n0 hO x1 x2 M)
/-! X4_readThing -/
def fX4_readThing (n0 : Nat) (M : Mem) : Option (Int32 × Mem) :=
  (fX4_newName n0 M).bind fun z1 =>
  if z1.1 = (-1 : Int32) then
    some ((0 : Int32), z1.2)
  else
    (fX8_skip n0 (261 : Int32) z1.2).bind fun z17 =>
    if z17.1 = 0 then
      some ((0 : Int32), z17.2)
    else
      (fX4_number n0 (0 : Int32) (99 : Int32) z17.2).bind fun z29 =>
      if z29.1 = (-1 : Int32) then
        some ((0 : Int32), z29.2)
      else
        (fX8_skip n0 (262 : Int32) z29.2).bind fun z45 =>
        if z45.1 = 0 then
          some ((0 : Int32), z45.2)
        else
          (fX4_number n0 (1 : Int32) (99 : Int32) z45.2).bind fun z57 =>
          if z57.1 = (-1 : Int32) then
            some ((0 : Int32), z57.2)
          else
            (fX9_addThing n0 (gR z57.2 130) z1.1 z29.1 z57.1 z57.2).bind fun z75 =>
            some ((1 : Int32), z75)
theorem tfX4_readThing (n0 : Nat) (hO : OKc p (rmL 5) s m args meth c LX D cy ad cX4_readThing RX4 4 5 (some .boolean)) (M : Mem) : BL p l e (rmL 5) s m args below meth c LX D cy ad 4 (QI LX D cy ad) 0 [(0, .ref (ad 1))] [] M (fX4_readThing n0 M) := by
  unfold fX4_readThing
  refine b_aload_n hO dX4_readThing_0 0 rfl rfl ?_
  refine b_callVI hO mdX4_newName mvX4_newName w750 (ci := 4) rfl rfl (by decide) kLX_1 (As := []) (st := []) (ctX4_newName n0 hO.2.2.2.2.2.2.1 _) (Nat.le_of_ble_eq_true rfl) rfl rfl (Nat.le_of_ble_eq_true rfl) dX4_readThing_1 (fun z1 => ?_)
  refine b_istore_n hO dX4_readThing_4 rfl (by decide) (lv' := [(1, .int _), (0, .ref _)]) rfl ?_
  refine b_iload_n hO dX4_readThing_5 0 rfl rfl ?_
  refine b_iconst hO dX4_readThing_6 ic_i_m1 ?_
  refine b_icmp_eq hO dX4_readThing_7 (tgt := 23) (by decide) ?_ ?_
  · refine b_iconst hO dX4_readThing_23 ic_i_0 ?_
    exact b_zretc hO (Or.inl rfl) dX4_readThing_24
  · refine b_aload_n hO dX4_readThing_10 1 rfl rfl ?_
    refine b_get hO flX4_14 kLX_1 (v := .ref (ad 3)) rfl dX4_readThing_11 ?_
    refine b_sipush hO dX4_readThing_14 ic_s_261 ?_
    refine b_callVI hO mdX8_skip mvX8_skip w774 (ci := 8) rfl rfl (by decide) kLX_3 (As := [.int _]) (st := []) (ctX8_skip n0 hO.2.2.2.2.2.2.1 _ _) (Nat.le_of_ble_eq_true rfl) rfl rfl (Nat.le_of_ble_eq_true rfl) dX4_readThing_17 (fun z17 => ?_)
    refine b_if_ne hO dX4_readThing_20 (tgt := 25) (by decide) ?_ ?_
    · refine b_aload_n hO dX4_readThing_25 1 rfl rfl ?_
      refine b_iconst hO dX4_readThing_26 ic_i_0 ?_
      refine b_bipush hO dX4_readThing_27 ic_b_99 ?_
      refine b_callVI hO mdX4_number mvX4_number w779 (ci := 4) rfl rfl (by decide) kLX_1 (As := [.int _, .int _]) (st := []) (ctX4_number n0 hO.2.2.2.2.2.2.1 _ _ _) (Nat.le_of_ble_eq_true rfl) rfl rfl (Nat.le_of_ble_eq_true rfl) dX4_readThing_29 (fun z29 => ?_)
      refine b_istore_n hO dX4_readThing_32 rfl (by decide) (lv' := [(2, .int _), (1, .int _), (0, .ref _)]) rfl ?_
      refine b_iload_n hO dX4_readThing_33 0 rfl rfl ?_
      refine b_iconst hO dX4_readThing_34 ic_i_m1 ?_
      refine b_icmp_eq hO dX4_readThing_35 (tgt := 51) (by decide) ?_ ?_
      · refine b_iconst hO dX4_readThing_51 ic_i_0 ?_
        exact b_zretc hO (Or.inl rfl) dX4_readThing_52
      · refine b_aload_n hO dX4_readThing_38 2 rfl rfl ?_
        refine b_get hO flX4_14 kLX_1 (v := .ref (ad 3)) rfl dX4_readThing_39 ?_
        refine b_sipush hO dX4_readThing_42 ic_s_262 ?_
        refine b_callVI hO mdX8_skip mvX8_skip w774 (ci := 8) rfl rfl (by decide) kLX_3 (As := [.int _]) (st := []) (ctX8_skip n0 hO.2.2.2.2.2.2.1 _ _) (Nat.le_of_ble_eq_true rfl) rfl rfl (Nat.le_of_ble_eq_true rfl) dX4_readThing_45 (fun z45 => ?_)
        refine b_if_ne hO dX4_readThing_48 (tgt := 53) (by decide) ?_ ?_
        · refine b_aload_n hO dX4_readThing_53 2 rfl rfl ?_
          refine b_iconst hO dX4_readThing_54 ic_i_1 ?_
          refine b_bipush hO dX4_readThing_55 ic_b_99 ?_
          refine b_callVI hO mdX4_number mvX4_number w779 (ci := 4) rfl rfl (by decide) kLX_1 (As := [.int _, .int _]) (st := []) (ctX4_number n0 hO.2.2.2.2.2.2.1 _ _ _) (Nat.le_of_ble_eq_true rfl) rfl rfl (Nat.le_of_ble_eq_true rfl) dX4_readThing_57 (fun z57 => ?_)
          refine b_istore_n hO dX4_readThing_60 rfl (by decide) (lv' := [(3, .int _), (2, .int _), (1, .int _), (0, .ref _)]) rfl ?_
          refine b_iload_n hO dX4_readThing_61 0 rfl rfl ?_
          refine b_iconst hO dX4_readThing_62 ic_i_m1 ?_
          refine b_icmp_ne hO dX4_readThing_63 (tgt := 68) (by decide) ?_ ?_
          · refine b_aload_n hO dX4_readThing_68 3 rfl rfl ?_
            refine b_getR hO flX4_35 kLX_1 (id := 130) rfl rfl (rk := 9) rfl (by decide) dX4_readThing_69 (fun hg1 => ?_)
            refine b_iload_n hO dX4_readThing_72 2 rfl rfl ?_
            refine b_iload_n hO dX4_readThing_73 1 rfl rfl ?_
            refine b_iload_n hO dX4_readThing_74 0 rfl rfl ?_
            refine b_callVV hO mdX9_addThing mvX9_addThing w783 (ci := 9) rfl rfl (by decide) hg1 (As := [.int _, .int _, .int _]) (st := []) (ctX9_addThing n0 _ hg1 hO.2.2.2.2.2.2.1 _ _ _ _) (Nat.le_of_ble_eq_true rfl) rfl rfl (Nat.le_of_ble_eq_true rfl) dX4_readThing_75 (fun z75 => ?_)
            refine b_iconst hO dX4_readThing_78 ic_i_1 ?_
            exact b_zretc hO (Or.inr rfl) dX4_readThing_79
          · refine b_iconst hO dX4_readThing_66 ic_i_0 ?_
            exact b_zretc hO (Or.inl rfl) dX4_readThing_67
        · refine b_iconst hO dX4_readThing_51 ic_i_0 ?_
          exact b_zretc hO (Or.inl rfl) dX4_readThing_52
    · refine b_iconst hO dX4_readThing_23 ic_i_0 ?_
      exact b_zretc hO (Or.inl rfl) dX4_readThing_24
theorem ctX4_readThing (n0 : Nat) (hI : Inj LX ad) (M : Mem) : CT l LX D cy ad yX4_readThing cX4_readThing 4 (some .boolean) 5 (QI LX D cy ad) [.ref (ad 1)] M (fX4_readThing n0 M) :=
  CT.mk LXok hI (by decide) (Nat.le_of_ble_eq_true rfl) (fun hO => tfX4_readThing n0 hO M)
/-! X4_readCorner -/
def fX4_readCorner (n0 : Nat) (M : Mem) : Option (Int32 × Mem) :=
  (fX4_newName n0 M).bind fun z1 =>
  if z1.1 = (-1 : Int32) then
    some ((0 : Int32), z1.2)
  else
    (fX9_addCorner n0 (gR z1.2 130) z1.1 z1.2).bind fun z17 =>
    some ((1 : Int32), z17)
theorem tfX4_readCorner (n0 : Nat) (hO : OKc p (rmL 5) s m args meth c LX D cy ad cX4_readCorner RX4 2 5 (some .boolean)) (M : Mem) : BL p l e (rmL 5) s m args below meth c LX D cy ad 2 (QI LX D cy ad) 0 [(0, .ref (ad 1))] [] M (fX4_readCorner n0 M) := by
  unfold fX4_readCorner
  refine b_aload_n hO dX4_readCorner_0 0 rfl rfl ?_
  refine b_callVI hO mdX4_newName mvX4_newName w750 (ci := 4) rfl rfl (by decide) kLX_1 (As := []) (st := []) (ctX4_newName n0 hO.2.2.2.2.2.2.1 _) (Nat.le_of_ble_eq_true rfl) rfl rfl (Nat.le_of_ble_eq_true rfl) dX4_readCorner_1 (fun z1 => ?_)
  refine b_istore_n hO dX4_readCorner_4 rfl (by decide) (lv' := [(1, .int _), (0, .ref _)]) rfl ?_
  refine b_iload_n hO dX4_readCorner_5 0 rfl rfl ?_
  refine b_iconst hO dX4_readCorner_6 ic_i_m1 ?_
  refine b_icmp_ne hO dX4_readCorner_7 (tgt := 12) (by decide) ?_ ?_
  · refine b_aload_n hO dX4_readCorner_12 1 rfl rfl ?_
    refine b_getR hO flX4_35 kLX_1 (id := 130) rfl rfl (rk := 9) rfl (by decide) dX4_readCorner_13 (fun hg1 => ?_)
    refine b_iload_n hO dX4_readCorner_16 0 rfl rfl ?_
    refine b_callVV hO mdX9_addCorner mvX9_addCorner w791 (ci := 9) rfl rfl (by decide) hg1 (As := [.int _]) (st := []) (ctX9_addCorner n0 _ hg1 hO.2.2.2.2.2.2.1 _ _) (Nat.le_of_ble_eq_true rfl) rfl rfl (Nat.le_of_ble_eq_true rfl) dX4_readCorner_17 (fun z17 => ?_)
    refine b_iconst hO dX4_readCorner_20 ic_i_1 ?_
    exact b_zretc hO (Or.inr rfl) dX4_readCorner_21
  · refine b_iconst hO dX4_readCorner_10 ic_i_0 ?_
    exact b_zretc hO (Or.inl rfl) dX4_readCorner_11
theorem ctX4_readCorner (n0 : Nat) (hI : Inj LX ad) (M : Mem) : CT l LX D cy ad yX4_readCorner cX4_readCorner 2 (some .boolean) 5 (QI LX D cy ad) [.ref (ad 1)] M (fX4_readCorner n0 M) :=
  CT.mk LXok hI (by decide) (Nat.le_of_ble_eq_true rfl) (fun hO => tfX4_readCorner n0 hO M)
/-! X4_cornerHere -/
def fX4_cornerHere (n0 : Nat) (M : Mem) : Option (Int32 × Mem) :=
  if (gI M 386) = (257 : Int32) then
    (fX9_findCorner n0 (gR M 130) (gI M 389) M).bind fun z34 =>
    if z34.1 = (-1 : Int32) then
      (fX8_fail n0 (3 : Int32) (gI z34.2 387) z34.2).bind fun z55 =>
      some (z34.1, z55.2)
    else
      some (z34.1, z34.2)
  else
    (fX8_failHere n0 M).bind fun z17 =>
    some ((-1 : Int32), z17.2)
theorem tfX4_cornerHere (n0 : Nat) (hO : OKc p (rmL 3) s m args meth c LX D cy ad cX4_cornerHere RX4 2 3 (some .int)) (M : Mem) : BL p l e (rmL 3) s m args below meth c LX D cy ad 2 (QI LX D cy ad) 0 [(0, .ref (ad 1))] [] M (fX4_cornerHere n0 M) := by
  unfold fX4_cornerHere
  refine b_aload_n hO dX4_cornerHere_0 0 rfl rfl ?_
  refine b_get hO flX4_14 kLX_1 (v := .ref (ad 3)) rfl dX4_cornerHere_1 ?_
  refine b_get hO flX4_45 kLX_3 (v := .int (gI _ 386)) rfl dX4_cornerHere_4 ?_
  refine b_sipush hO dX4_cornerHere_7 ic_s_257 ?_
  refine b_icmp_eq hO dX4_cornerHere_10 (tgt := 23) (by decide) ?_ ?_
  · refine b_aload_n hO dX4_cornerHere_23 0 rfl rfl ?_
    refine b_getR hO flX4_35 kLX_1 (id := 130) rfl rfl (rk := 9) rfl (by decide) dX4_cornerHere_24 (fun hg1 => ?_)
    refine b_aload_n hO dX4_cornerHere_27 0 rfl rfl ?_
    refine b_get hO flX4_14 kLX_1 (v := .ref (ad 3)) rfl dX4_cornerHere_28 ?_
    refine b_get hO flX4_151 kLX_3 (v := .int (gI _ 389)) rfl dX4_cornerHere_31 ?_
    refine b_callVI hO mdX9_findCorner mvX9_findCorner w766 (ci := 9) rfl rfl (by decide) hg1 (As := [.int _]) (st := []) (ctX9_findCorner n0 _ hg1 hO.2.2.2.2.2.2.1 _ _) (Nat.le_of_ble_eq_true rfl) rfl rfl (Nat.le_of_ble_eq_true rfl) dX4_cornerHere_34 (fun z34 => ?_)
    refine b_istore_n hO dX4_cornerHere_37 rfl (by decide) (lv' := [(1, .int _), (0, .ref _)]) rfl ?_
    refine b_iload_n hO dX4_cornerHere_38 0 rfl rfl ?_
    refine b_iconst hO dX4_cornerHere_39 ic_i_m1 ?_
    refine b_icmp_ne hO dX4_cornerHere_40 (tgt := 59) (by decide) ?_ ?_
    · refine b_iload_n hO dX4_cornerHere_59 0 rfl rfl ?_
      exact b_iret hO dX4_cornerHere_60
    · refine b_aload_n hO dX4_cornerHere_43 1 rfl rfl ?_
      refine b_get hO flX4_14 kLX_1 (v := .ref (ad 3)) rfl dX4_cornerHere_44 ?_
      refine b_iconst hO dX4_cornerHere_47 ic_i_3 ?_
      refine b_aload_n hO dX4_cornerHere_48 1 rfl rfl ?_
      refine b_get hO flX4_14 kLX_1 (v := .ref (ad 3)) rfl dX4_cornerHere_49 ?_
      refine b_get hO flX4_60 kLX_3 (v := .int (gI _ 387)) rfl dX4_cornerHere_52 ?_
      refine b_callVI hO mdX8_fail mvX8_fail w741 (ci := 8) rfl rfl (by decide) kLX_3 (As := [.int _, .int _]) (st := []) (ctX8_fail n0 hO.2.2.2.2.2.2.1 _ _ _) (Nat.le_of_ble_eq_true rfl) rfl rfl (Nat.le_of_ble_eq_true rfl) dX4_cornerHere_55 (fun z55 => ?_)
      refine b_pop hO dX4_cornerHere_58 rfl ?_
      refine b_iload_n hO dX4_cornerHere_59 0 rfl rfl ?_
      exact b_iret hO dX4_cornerHere_60
  · refine b_aload_n hO dX4_cornerHere_13 0 rfl rfl ?_
    refine b_get hO flX4_14 kLX_1 (v := .ref (ad 3)) rfl dX4_cornerHere_14 ?_
    refine b_callVI hO mdX8_failHere mvX8_failHere w754 (ci := 8) rfl rfl (by decide) kLX_3 (As := []) (st := []) (ctX8_failHere n0 hO.2.2.2.2.2.2.1 _) (Nat.le_of_ble_eq_true rfl) rfl rfl (Nat.le_of_ble_eq_true rfl) dX4_cornerHere_17 (fun z17 => ?_)
    refine b_pop hO dX4_cornerHere_20 rfl ?_
    refine b_iconst hO dX4_cornerHere_21 ic_i_m1 ?_
    exact b_iret hO dX4_cornerHere_22
theorem ctX4_cornerHere (n0 : Nat) (hI : Inj LX ad) (M : Mem) : CT l LX D cy ad yX4_cornerHere cX4_cornerHere 2 (some .int) 3 (QI LX D cy ad) [.ref (ad 1)] M (fX4_cornerHere n0 M) :=
  CT.mk LXok hI (by decide) (Nat.le_of_ble_eq_true rfl) (fun hO => tfX4_cornerHere n0 hO M)
/-! X4_readRoad -/
def fX4_readRoad_63 (n0 : Nat) (M : Mem) : Option (Int32 × Mem) :=
  (fX8_fail n0 (3 : Int32) (gI M 387) M).bind fun z75 =>
  if z75.1 = 0 ∨ z75.1 = 1 then some (z75.1, z75.2) else none
def fX4_readRoad_110 (n0 : Nat) (x1 : Int32) (x2 : Int32) (u0 : Int32) (M : Mem) : Option (Int32 × Mem) :=
  if u0 = (-1 : Int32) then
    some ((0 : Int32), M)
  else
    (fX9_addRoad n0 (gR M 130) x1 x2 u0 M).bind fun z125 =>
    some ((1 : Int32), z125)
def fX4_readRoad (n0 : Nat) (M : Mem) : Option (Int32 × Mem) :=
  (fX4_cornerHere n0 M).bind fun z1 =>
  if z1.1 = (-1 : Int32) then
    some ((0 : Int32), z1.2)
  else
    (fX8_advance n0 z1.2).bind fun z16 =>
    (fX8_skip n0 (265 : Int32) z16).bind fun z26 =>
    if z26.1 = 0 then
      some ((0 : Int32), z26.2)
    else
      (fX4_cornerHere n0 z26.2).bind fun z35 =>
      if z35.1 = (-1 : Int32) then
        some ((0 : Int32), z35.2)
      else
        if z35.1 = z1.1 then
          fX4_readRoad_63 n0 z35.2
        else
          (fX9_hasRoad n0 (gR z35.2 130) z1.1 z35.1 z35.2).bind fun z57 =>
          if z57.1 = 0 then
            (fX8_advance n0 z57.2).bind fun z83 =>
            (fX8_skip n0 (266 : Int32) z83).bind fun z93 =>
            if z93.1 = 0 then
              fX4_readRoad_110 n0 z1.1 z35.1 (-1 : Int32) z93.2
            else
              (fX4_number n0 (1 : Int32) (30 : Int32) z93.2).bind fun z103 =>
              fX4_readRoad_110 n0 z1.1 z35.1 z103.1 z103.2
          else
            fX4_readRoad_63 n0 z57.2
theorem tfX4_readRoad_63 (n0 : Nat) (hO : OKc p (rmL 5) s m args meth c LX D cy ad cX4_readRoad RX4 4 5 (some .boolean)) (M : Mem) : BL p l e (rmL 5) s m args below meth c LX D cy ad 4 (QI LX D cy ad) 63 [(0, .ref (ad 1))] [] M (fX4_readRoad_63 n0 M) := by
  unfold fX4_readRoad_63
  refine b_aload_n hO dX4_readRoad_63 0 rfl rfl ?_
  refine b_get hO flX4_14 kLX_1 (v := .ref (ad 3)) rfl dX4_readRoad_64 ?_
  refine b_iconst hO dX4_readRoad_67 ic_i_3 ?_
  refine b_aload_n hO dX4_readRoad_68 0 rfl rfl ?_
  refine b_get hO flX4_14 kLX_1 (v := .ref (ad 3)) rfl dX4_readRoad_69 ?_
  refine b_get hO flX4_60 kLX_3 (v := .int (gI _ 387)) rfl dX4_readRoad_72 ?_
  refine b_callVI hO mdX8_fail mvX8_fail w741 (ci := 8) rfl rfl (by decide) kLX_3 (As := [.int _, .int _]) (st := []) (ctX8_fail n0 hO.2.2.2.2.2.2.1 _ _ _) (Nat.le_of_ble_eq_true rfl) rfl rfl (Nat.le_of_ble_eq_true rfl) dX4_readRoad_75 (fun z75 => ?_)
  exact b_zret hO dX4_readRoad_78
theorem tfX4_readRoad_110 (n0 : Nat) (hO : OKc p (rmL 5) s m args meth c LX D cy ad cX4_readRoad RX4 4 5 (some .boolean)) (x1 : Int32) (x2 : Int32) (u0 : Int32) (M : Mem) : BL p l e (rmL 5) s m args below meth c LX D cy ad 4 (QI LX D cy ad) 110 [(0, .ref (ad 1)), (1, .int x1), (2, .int x2)] [.int u0] M (fX4_readRoad_110 n0 x1 x2 u0 M) := by
  unfold fX4_readRoad_110
  refine b_istore_n hO dX4_readRoad_110 rfl (by decide) (lv' := [(3, .int _), (0, .ref _), (1, .int _), (2, .int _)]) rfl ?_
  refine b_iload_n hO dX4_readRoad_111 0 rfl rfl ?_
  refine b_iconst hO dX4_readRoad_112 ic_i_m1 ?_
  refine b_icmp_ne hO dX4_readRoad_113 (tgt := 118) (by decide) ?_ ?_
  · refine b_aload_n hO dX4_readRoad_118 1 rfl rfl ?_
    refine b_getR hO flX4_35 kLX_1 (id := 130) rfl rfl (rk := 9) rfl (by decide) dX4_readRoad_119 (fun hg1 => ?_)
    refine b_iload_n hO dX4_readRoad_122 2 rfl rfl ?_
    refine b_iload_n hO dX4_readRoad_123 3 rfl rfl ?_
    refine b_iload_n hO dX4_readRoad_124 0 rfl rfl ?_
    refine b_callVV hO mdX9_addRoad mvX9_addRoad w807 (ci := 9) rfl rfl (by decide) hg1 (As := [.int _, .int _, .int _]) (st := []) (ctX9_addRoad n0 _ hg1 hO.2.2.2.2.2.2.1 _ _ _ _) (Nat.le_of_ble_eq_true rfl) rfl rfl (Nat.le_of_ble_eq_true rfl) dX4_readRoad_125 (fun z125 => ?_)
    refine b_iconst hO dX4_readRoad_128 ic_i_1 ?_
    exact b_zretc hO (Or.inr rfl) dX4_readRoad_129
  · refine b_iconst hO dX4_readRoad_116 ic_i_0 ?_
    exact b_zretc hO (Or.inl rfl) dX4_readRoad_117
theorem tfX4_readRoad (n0 : Nat) (hO : OKc p (rmL 5) s m args meth c LX D cy ad cX4_readRoad RX4 4 5 (some .boolean)) (M : Mem) : BL p l e (rmL 5) s m args below meth c LX D cy ad 4 (QI LX D cy ad) 0 [(0, .ref (ad 1))] [] M (fX4_readRoad n0 M) := by
  unfold fX4_readRoad
  refine b_aload_n hO dX4_readRoad_0 0 rfl rfl ?_
  refine b_callVI hO mdX4_cornerHere mvX4_cornerHere w799 (ci := 4) rfl rfl (by decide) kLX_1 (As := []) (st := []) (ctX4_cornerHere n0 hO.2.2.2.2.2.2.1 _) (Nat.le_of_ble_eq_true rfl) rfl rfl (Nat.le_of_ble_eq_true rfl) dX4_readRoad_1 (fun z1 => ?_)
  refine b_istore_n hO dX4_readRoad_4 rfl (by decide) (lv' := [(1, .int _), (0, .ref _)]) rfl ?_
  refine b_iload_n hO dX4_readRoad_5 0 rfl rfl ?_
  refine b_iconst hO dX4_readRoad_6 ic_i_m1 ?_
  refine b_icmp_ne hO dX4_readRoad_7 (tgt := 12) (by decide) ?_ ?_
  · refine b_aload_n hO dX4_readRoad_12 1 rfl rfl ?_
    refine b_get hO flX4_14 kLX_1 (v := .ref (ad 3)) rfl dX4_readRoad_13 ?_
    refine b_callVV hO mdX8_advance mvX8_advance w745 (ci := 8) rfl rfl (by decide) kLX_3 (As := []) (st := []) (ctX8_advance n0 hO.2.2.2.2.2.2.1 _) (Nat.le_of_ble_eq_true rfl) rfl rfl (Nat.le_of_ble_eq_true rfl) dX4_readRoad_16 (fun z16 => ?_)
    refine b_aload_n hO dX4_readRoad_19 1 rfl rfl ?_
    refine b_get hO flX4_14 kLX_1 (v := .ref (ad 3)) rfl dX4_readRoad_20 ?_
    refine b_sipush hO dX4_readRoad_23 ic_s_265 ?_
    refine b_callVI hO mdX8_skip mvX8_skip w774 (ci := 8) rfl rfl (by decide) kLX_3 (As := [.int _]) (st := []) (ctX8_skip n0 hO.2.2.2.2.2.2.1 _ _) (Nat.le_of_ble_eq_true rfl) rfl rfl (Nat.le_of_ble_eq_true rfl) dX4_readRoad_26 (fun z26 => ?_)
    refine b_if_ne hO dX4_readRoad_29 (tgt := 34) (by decide) ?_ ?_
    · refine b_aload_n hO dX4_readRoad_34 1 rfl rfl ?_
      refine b_callVI hO mdX4_cornerHere mvX4_cornerHere w799 (ci := 4) rfl rfl (by decide) kLX_1 (As := []) (st := []) (ctX4_cornerHere n0 hO.2.2.2.2.2.2.1 _) (Nat.le_of_ble_eq_true rfl) rfl rfl (Nat.le_of_ble_eq_true rfl) dX4_readRoad_35 (fun z35 => ?_)
      refine b_istore_n hO dX4_readRoad_38 rfl (by decide) (lv' := [(2, .int _), (1, .int _), (0, .ref _)]) rfl ?_
      refine b_iload_n hO dX4_readRoad_39 0 rfl rfl ?_
      refine b_iconst hO dX4_readRoad_40 ic_i_m1 ?_
      refine b_icmp_ne hO dX4_readRoad_41 (tgt := 46) (by decide) ?_ ?_
      · refine b_iload_n hO dX4_readRoad_46 0 rfl rfl ?_
        refine b_iload_n hO dX4_readRoad_47 1 rfl rfl ?_
        refine b_icmp_eq hO dX4_readRoad_48 (tgt := 63) (by decide) ?_ ?_
        · refine b_sub [2] rfl ?_
          exact tfX4_readRoad_63 n0 hO _
        · refine b_aload_n hO dX4_readRoad_51 2 rfl rfl ?_
          refine b_getR hO flX4_35 kLX_1 (id := 130) rfl rfl (rk := 9) rfl (by decide) dX4_readRoad_52 (fun hg1 => ?_)
          refine b_iload_n hO dX4_readRoad_55 1 rfl rfl ?_
          refine b_iload_n hO dX4_readRoad_56 0 rfl rfl ?_
          refine b_callVI hO mdX9_hasRoad mvX9_hasRoad w803 (ci := 9) rfl rfl (by decide) hg1 (As := [.int _, .int _]) (st := []) (ctX9_hasRoad n0 _ hg1 hO.2.2.2.2.2.2.1 _ _ _) (Nat.le_of_ble_eq_true rfl) rfl rfl (Nat.le_of_ble_eq_true rfl) dX4_readRoad_57 (fun z57 => ?_)
          refine b_if_eq hO dX4_readRoad_60 (tgt := 79) (by decide) ?_ ?_
          · refine b_aload_n hO dX4_readRoad_79 2 rfl rfl ?_
            refine b_get hO flX4_14 kLX_1 (v := .ref (ad 3)) rfl dX4_readRoad_80 ?_
            refine b_callVV hO mdX8_advance mvX8_advance w745 (ci := 8) rfl rfl (by decide) kLX_3 (As := []) (st := []) (ctX8_advance n0 hO.2.2.2.2.2.2.1 _) (Nat.le_of_ble_eq_true rfl) rfl rfl (Nat.le_of_ble_eq_true rfl) dX4_readRoad_83 (fun z83 => ?_)
            refine b_aload_n hO dX4_readRoad_86 2 rfl rfl ?_
            refine b_get hO flX4_14 kLX_1 (v := .ref (ad 3)) rfl dX4_readRoad_87 ?_
            refine b_sipush hO dX4_readRoad_90 ic_s_266 ?_
            refine b_callVI hO mdX8_skip mvX8_skip w774 (ci := 8) rfl rfl (by decide) kLX_3 (As := [.int _]) (st := []) (ctX8_skip n0 hO.2.2.2.2.2.2.1 _ _) (Nat.le_of_ble_eq_true rfl) rfl rfl (Nat.le_of_ble_eq_true rfl) dX4_readRoad_93 (fun z93 => ?_)
            refine b_if_eq hO dX4_readRoad_96 (tgt := 109) (by decide) ?_ ?_
            · refine b_iconst hO dX4_readRoad_109 ic_i_m1 ?_
              refine b_sub [2, 1, 0] rfl ?_
              exact tfX4_readRoad_110 n0 hO _ _ _ _
            · refine b_aload_n hO dX4_readRoad_99 2 rfl rfl ?_
              refine b_iconst hO dX4_readRoad_100 ic_i_1 ?_
              refine b_bipush hO dX4_readRoad_101 ic_b_30 ?_
              refine b_callVI hO mdX4_number mvX4_number w779 (ci := 4) rfl rfl (by decide) kLX_1 (As := [.int _, .int _]) (st := []) (ctX4_number n0 hO.2.2.2.2.2.2.1 _ _ _) (Nat.le_of_ble_eq_true rfl) rfl rfl (Nat.le_of_ble_eq_true rfl) dX4_readRoad_103 (fun z103 => ?_)
              refine b_goto hO dX4_readRoad_106 (tgt := 110) (by decide) ?_
              refine b_sub [2, 1, 0] rfl ?_
              exact tfX4_readRoad_110 n0 hO _ _ _ _
          · refine b_sub [2] rfl ?_
            exact tfX4_readRoad_63 n0 hO _
      · refine b_iconst hO dX4_readRoad_44 ic_i_0 ?_
        exact b_zretc hO (Or.inl rfl) dX4_readRoad_45
    · refine b_iconst hO dX4_readRoad_32 ic_i_0 ?_
      exact b_zretc hO (Or.inl rfl) dX4_readRoad_33
  · refine b_iconst hO dX4_readRoad_10 ic_i_0 ?_
    exact b_zretc hO (Or.inl rfl) dX4_readRoad_11
theorem ctX4_readRoad (n0 : Nat) (hI : Inj LX ad) (M : Mem) : CT l LX D cy ad yX4_readRoad cX4_readRoad 4 (some .boolean) 5 (QI LX D cy ad) [.ref (ad 1)] M (fX4_readRoad n0 M) :=
  CT.mk LXok hI (by decide) (Nat.le_of_ble_eq_true rfl) (fun hO => tfX4_readRoad n0 hO M)
/-! X4_readPalm -/
def fX4_readPalm (n0 : Nat) (M : Mem) : Option (Int32 × Mem) :=
  (fX4_cornerHere n0 M).bind fun z1 =>
  if z1.1 = (-1 : Int32) then
    some ((0 : Int32), z1.2)
  else
    if oob z1.1 5 then none else
    if (gA z1.2 ((gR z1.2 130) + 5) (Int32.toNatClampNeg z1.1)) = (-1 : Int32) then
      (fX8_advance n0 z1.2).bind fun z45 =>
      (fX8_skip n0 (268 : Int32) z45).bind fun z55 =>
      if z55.1 = 0 then
        some ((0 : Int32), z55.2)
      else
        if (gI z55.2 386) = (257 : Int32) then
          (fX9_findThing n0 (gR z55.2 130) (gI z55.2 389) z55.2).bind fun z95 =>
          if z95.1 = (-1 : Int32) then
            (fX8_fail n0 (3 : Int32) (gI z95.2 387) z95.2).bind fun z116 =>
            if z116.1 = 0 ∨ z116.1 = 1 then some (z116.1, z116.2) else none
          else
            (fX8_advance n0 z95.2).bind fun z124 =>
            if oob z1.1 5 then none else
            bnd (sA z124 ((gR z124 130) + 5) (Int32.toNatClampNeg z1.1) z95.1) fun M136 =>
            some ((1 : Int32), M136)
        else
          (fX8_failHere n0 z55.2).bind fun z80 =>
          if z80.1 = 0 ∨ z80.1 = 1 then some (z80.1, z80.2) else none
    else
      (fX8_fail n0 (3 : Int32) (gI z1.2 387) z1.2).bind fun z37 =>
      if z37.1 = 0 ∨ z37.1 = 1 then some (z37.1, z37.2) else none
theorem tfX4_readPalm (n0 : Nat) (hO : OKc p (rmL 5) s m args meth c LX D cy ad cX4_readPalm RX4 3 5 (some .boolean)) (M : Mem) : BL p l e (rmL 5) s m args below meth c LX D cy ad 3 (QI LX D cy ad) 0 [(0, .ref (ad 1))] [] M (fX4_readPalm n0 M) := by
  unfold fX4_readPalm
  refine b_aload_n hO dX4_readPalm_0 0 rfl rfl ?_
  refine b_callVI hO mdX4_cornerHere mvX4_cornerHere w799 (ci := 4) rfl rfl (by decide) kLX_1 (As := []) (st := []) (ctX4_cornerHere n0 hO.2.2.2.2.2.2.1 _) (Nat.le_of_ble_eq_true rfl) rfl rfl (Nat.le_of_ble_eq_true rfl) dX4_readPalm_1 (fun z1 => ?_)
  refine b_istore_n hO dX4_readPalm_4 rfl (by decide) (lv' := [(1, .int _), (0, .ref _)]) rfl ?_
  refine b_iload_n hO dX4_readPalm_5 0 rfl rfl ?_
  refine b_iconst hO dX4_readPalm_6 ic_i_m1 ?_
  refine b_icmp_ne hO dX4_readPalm_7 (tgt := 12) (by decide) ?_ ?_
  · refine b_aload_n hO dX4_readPalm_12 1 rfl rfl ?_
    refine b_getR hO flX4_35 kLX_1 (id := 130) rfl rfl (rk := 9) rfl (by decide) dX4_readPalm_13 (fun hg1 => ?_)
    refine b_get hO flX4_147 hg1 (v := .ref (ad ((gR z1.2 130) + 5))) rfl dX4_readPalm_16 ?_
    refine b_iload_n hO dX4_readPalm_19 0 rfl rfl ?_
    refine b_iald hO (kt_9_5 hg1) (n := 5) (lt_9_5 hg1) dX4_readPalm_20 ?_
    refine b_iconst hO dX4_readPalm_21 ic_i_m1 ?_
    refine b_icmp_eq hO dX4_readPalm_22 (tgt := 41) (by decide) ?_ ?_
    · refine b_aload_n hO dX4_readPalm_41 1 rfl rfl ?_
      refine b_get hO flX4_14 kLX_1 (v := .ref (ad 3)) rfl dX4_readPalm_42 ?_
      refine b_callVV hO mdX8_advance mvX8_advance w745 (ci := 8) rfl rfl (by decide) kLX_3 (As := []) (st := []) (ctX8_advance n0 hO.2.2.2.2.2.2.1 _) (Nat.le_of_ble_eq_true rfl) rfl rfl (Nat.le_of_ble_eq_true rfl) dX4_readPalm_45 (fun z45 => ?_)
      refine b_aload_n hO dX4_readPalm_48 1 rfl rfl ?_
      refine b_get hO flX4_14 kLX_1 (v := .ref (ad 3)) rfl dX4_readPalm_49 ?_
      refine b_sipush hO dX4_readPalm_52 ic_s_268 ?_
      refine b_callVI hO mdX8_skip mvX8_skip w774 (ci := 8) rfl rfl (by decide) kLX_3 (As := [.int _]) (st := []) (ctX8_skip n0 hO.2.2.2.2.2.2.1 _ _) (Nat.le_of_ble_eq_true rfl) rfl rfl (Nat.le_of_ble_eq_true rfl) dX4_readPalm_55 (fun z55 => ?_)
      refine b_if_ne hO dX4_readPalm_58 (tgt := 63) (by decide) ?_ ?_
      · refine b_aload_n hO dX4_readPalm_63 1 rfl rfl ?_
        refine b_get hO flX4_14 kLX_1 (v := .ref (ad 3)) rfl dX4_readPalm_64 ?_
        refine b_get hO flX4_45 kLX_3 (v := .int (gI _ 386)) rfl dX4_readPalm_67 ?_
        refine b_sipush hO dX4_readPalm_70 ic_s_257 ?_
        refine b_icmp_eq hO dX4_readPalm_73 (tgt := 84) (by decide) ?_ ?_
        · refine b_aload_n hO dX4_readPalm_84 1 rfl rfl ?_
          refine b_getR hO flX4_35 kLX_1 (id := 130) rfl rfl (rk := 9) rfl (by decide) dX4_readPalm_85 (fun hg2 => ?_)
          refine b_aload_n hO dX4_readPalm_88 1 rfl rfl ?_
          refine b_get hO flX4_14 kLX_1 (v := .ref (ad 3)) rfl dX4_readPalm_89 ?_
          refine b_get hO flX4_151 kLX_3 (v := .int (gI _ 389)) rfl dX4_readPalm_92 ?_
          refine b_callVI hO mdX9_findThing mvX9_findThing w759 (ci := 9) rfl rfl (by decide) hg2 (As := [.int _]) (st := []) (ctX9_findThing n0 _ hg2 hO.2.2.2.2.2.2.1 _ _) (Nat.le_of_ble_eq_true rfl) rfl rfl (Nat.le_of_ble_eq_true rfl) dX4_readPalm_95 (fun z95 => ?_)
          refine b_istore_n hO dX4_readPalm_98 rfl (by decide) (lv' := [(2, .int _), (1, .int _), (0, .ref _)]) rfl ?_
          refine b_iload_n hO dX4_readPalm_99 0 rfl rfl ?_
          refine b_iconst hO dX4_readPalm_100 ic_i_m1 ?_
          refine b_icmp_ne hO dX4_readPalm_101 (tgt := 120) (by decide) ?_ ?_
          · refine b_aload_n hO dX4_readPalm_120 2 rfl rfl ?_
            refine b_get hO flX4_14 kLX_1 (v := .ref (ad 3)) rfl dX4_readPalm_121 ?_
            refine b_callVV hO mdX8_advance mvX8_advance w745 (ci := 8) rfl rfl (by decide) kLX_3 (As := []) (st := []) (ctX8_advance n0 hO.2.2.2.2.2.2.1 _) (Nat.le_of_ble_eq_true rfl) rfl rfl (Nat.le_of_ble_eq_true rfl) dX4_readPalm_124 (fun z124 => ?_)
            refine b_aload_n hO dX4_readPalm_127 2 rfl rfl ?_
            refine b_getR hO flX4_35 kLX_1 (id := 130) rfl rfl (rk := 9) rfl (by decide) dX4_readPalm_128 (fun hg3 => ?_)
            refine b_get hO flX4_147 hg3 (v := .ref (ad ((gR z124 130) + 5))) rfl dX4_readPalm_131 ?_
            refine b_iload_n hO dX4_readPalm_134 1 rfl rfl ?_
            refine b_iload_n hO dX4_readPalm_135 0 rfl rfl ?_
            refine b_iast hO (kt_9_5 hg3) (n := 5) (lt_9_5 hg3) dX4_readPalm_136 ?_
            refine b_bnd (fun M136 => ?_)
            refine b_iconst hO dX4_readPalm_137 ic_i_1 ?_
            exact b_zretc hO (Or.inr rfl) dX4_readPalm_138
          · refine b_aload_n hO dX4_readPalm_104 2 rfl rfl ?_
            refine b_get hO flX4_14 kLX_1 (v := .ref (ad 3)) rfl dX4_readPalm_105 ?_
            refine b_iconst hO dX4_readPalm_108 ic_i_3 ?_
            refine b_aload_n hO dX4_readPalm_109 2 rfl rfl ?_
            refine b_get hO flX4_14 kLX_1 (v := .ref (ad 3)) rfl dX4_readPalm_110 ?_
            refine b_get hO flX4_60 kLX_3 (v := .int (gI _ 387)) rfl dX4_readPalm_113 ?_
            refine b_callVI hO mdX8_fail mvX8_fail w741 (ci := 8) rfl rfl (by decide) kLX_3 (As := [.int _, .int _]) (st := []) (ctX8_fail n0 hO.2.2.2.2.2.2.1 _ _ _) (Nat.le_of_ble_eq_true rfl) rfl rfl (Nat.le_of_ble_eq_true rfl) dX4_readPalm_116 (fun z116 => ?_)
            exact b_zret hO dX4_readPalm_119
        · refine b_aload_n hO dX4_readPalm_76 1 rfl rfl ?_
          refine b_get hO flX4_14 kLX_1 (v := .ref (ad 3)) rfl dX4_readPalm_77 ?_
          refine b_callVI hO mdX8_failHere mvX8_failHere w754 (ci := 8) rfl rfl (by decide) kLX_3 (As := []) (st := []) (ctX8_failHere n0 hO.2.2.2.2.2.2.1 _) (Nat.le_of_ble_eq_true rfl) rfl rfl (Nat.le_of_ble_eq_true rfl) dX4_readPalm_80 (fun z80 => ?_)
          exact b_zret hO dX4_readPalm_83
      · refine b_iconst hO dX4_readPalm_61 ic_i_0 ?_
        exact b_zretc hO (Or.inl rfl) dX4_readPalm_62
    · refine b_aload_n hO dX4_readPalm_25 1 rfl rfl ?_
      refine b_get hO flX4_14 kLX_1 (v := .ref (ad 3)) rfl dX4_readPalm_26 ?_
      refine b_iconst hO dX4_readPalm_29 ic_i_3 ?_
      refine b_aload_n hO dX4_readPalm_30 1 rfl rfl ?_
      refine b_get hO flX4_14 kLX_1 (v := .ref (ad 3)) rfl dX4_readPalm_31 ?_
      refine b_get hO flX4_60 kLX_3 (v := .int (gI _ 387)) rfl dX4_readPalm_34 ?_
      refine b_callVI hO mdX8_fail mvX8_fail w741 (ci := 8) rfl rfl (by decide) kLX_3 (As := [.int _, .int _]) (st := []) (ctX8_fail n0 hO.2.2.2.2.2.2.1 _ _ _) (Nat.le_of_ble_eq_true rfl) rfl rfl (Nat.le_of_ble_eq_true rfl) dX4_readPalm_37 (fun z37 => ?_)
      exact b_zret hO dX4_readPalm_40
  · refine b_iconst hO dX4_readPalm_10 ic_i_0 ?_
    exact b_zretc hO (Or.inl rfl) dX4_readPalm_11
theorem ctX4_readPalm (n0 : Nat) (hI : Inj LX ad) (M : Mem) : CT l LX D cy ad yX4_readPalm cX4_readPalm 3 (some .boolean) 5 (QI LX D cy ad) [.ref (ad 1)] M (fX4_readPalm n0 M) :=
  CT.mk LXok hI (by decide) (Nat.le_of_ble_eq_true rfl) (fun hO => tfX4_readPalm n0 hO M)
/-! X4_readDoing -/
def fX4_readDoing_68 (n0 : Nat) (x1 : Int32) (x2 : Int32) (u0 : Int32) (M : Mem) : Option (Int32 × Mem) :=
  if u0 = (-1 : Int32) then
    some ((0 : Int32), M)
  else
    (fX9_addDoing n0 (gR M 130) x1 x2 u0 M).bind fun z83 =>
    some ((1 : Int32), z83)
def fX4_readDoing (n0 : Nat) (M : Mem) : Option (Int32 × Mem) :=
  (fX4_newName n0 M).bind fun z1 =>
  if z1.1 = (-1 : Int32) then
    some ((0 : Int32), z1.2)
  else
    (fX8_skip n0 (270 : Int32) z1.2).bind fun z17 =>
    if z17.1 = 0 then
      some ((0 : Int32), z17.2)
    else
      (fX4_cornerHere n0 z17.2).bind fun z26 =>
      if z26.1 = (-1 : Int32) then
        some ((0 : Int32), z26.2)
      else
        (fX8_advance n0 z26.2).bind fun z41 =>
        (fX8_skip n0 (271 : Int32) z41).bind fun z51 =>
        if z51.1 = 0 then
          fX4_readDoing_68 n0 z1.1 z26.1 (-1 : Int32) z51.2
        else
          (fX4_number n0 (0 : Int32) (23 : Int32) z51.2).bind fun z61 =>
          fX4_readDoing_68 n0 z1.1 z26.1 z61.1 z61.2
theorem tfX4_readDoing_68 (n0 : Nat) (hO : OKc p (rmL 5) s m args meth c LX D cy ad cX4_readDoing RX4 4 5 (some .boolean)) (x1 : Int32) (x2 : Int32) (u0 : Int32) (M : Mem) : BL p l e (rmL 5) s m args below meth c LX D cy ad 4 (QI LX D cy ad) 68 [(0, .ref (ad 1)), (1, .int x1), (2, .int x2)] [.int u0] M (fX4_readDoing_68 n0 x1 x2 u0 M) := by
  unfold fX4_readDoing_68
  refine b_istore_n hO dX4_readDoing_68 rfl (by decide) (lv' := [(3, .int _), (0, .ref _), (1, .int _), (2, .int _)]) rfl ?_
  refine b_iload_n hO dX4_readDoing_69 0 rfl rfl ?_
  refine b_iconst hO dX4_readDoing_70 ic_i_m1 ?_
  refine b_icmp_ne hO dX4_readDoing_71 (tgt := 76) (by decide) ?_ ?_
  · refine b_aload_n hO dX4_readDoing_76 1 rfl rfl ?_
    refine b_getR hO flX4_35 kLX_1 (id := 130) rfl rfl (rk := 9) rfl (by decide) dX4_readDoing_77 (fun hg1 => ?_)
    refine b_iload_n hO dX4_readDoing_80 2 rfl rfl ?_
    refine b_iload_n hO dX4_readDoing_81 3 rfl rfl ?_
    refine b_iload_n hO dX4_readDoing_82 0 rfl rfl ?_
    refine b_callVV hO mdX9_addDoing mvX9_addDoing w819 (ci := 9) rfl rfl (by decide) hg1 (As := [.int _, .int _, .int _]) (st := []) (ctX9_addDoing n0 _ hg1 hO.2.2.2.2.2.2.1 _ _ _ _) (Nat.le_of_ble_eq_true rfl) rfl rfl (Nat.le_of_ble_eq_true rfl) dX4_readDoing_83 (fun z83 => ?_)
    refine b_iconst hO dX4_readDoing_86 ic_i_1 ?_
    exact b_zretc hO (Or.inr rfl) dX4_readDoing_87
  · refine b_iconst hO dX4_readDoing_74 ic_i_0 ?_
    exact b_zretc hO (Or.inl rfl) dX4_readDoing_75
theorem tfX4_readDoing (n0 : Nat) (hO : OKc p (rmL 5) s m args meth c LX D cy ad cX4_readDoing RX4 4 5 (some .boolean)) (M : Mem) : BL p l e (rmL 5) s m args below meth c LX D cy ad 4 (QI LX D cy ad) 0 [(0, .ref (ad 1))] [] M (fX4_readDoing n0 M) := by
  unfold fX4_readDoing
  refine b_aload_n hO dX4_readDoing_0 0 rfl rfl ?_
  refine b_callVI hO mdX4_newName mvX4_newName w750 (ci := 4) rfl rfl (by decide) kLX_1 (As := []) (st := []) (ctX4_newName n0 hO.2.2.2.2.2.2.1 _) (Nat.le_of_ble_eq_true rfl) rfl rfl (Nat.le_of_ble_eq_true rfl) dX4_readDoing_1 (fun z1 => ?_)
  refine b_istore_n hO dX4_readDoing_4 rfl (by decide) (lv' := [(1, .int _), (0, .ref _)]) rfl ?_
  refine b_iload_n hO dX4_readDoing_5 0 rfl rfl ?_
  refine b_iconst hO dX4_readDoing_6 ic_i_m1 ?_
  refine b_icmp_eq hO dX4_readDoing_7 (tgt := 23) (by decide) ?_ ?_
  · refine b_iconst hO dX4_readDoing_23 ic_i_0 ?_
    exact b_zretc hO (Or.inl rfl) dX4_readDoing_24
  · refine b_aload_n hO dX4_readDoing_10 1 rfl rfl ?_
    refine b_get hO flX4_14 kLX_1 (v := .ref (ad 3)) rfl dX4_readDoing_11 ?_
    refine b_sipush hO dX4_readDoing_14 ic_s_270 ?_
    refine b_callVI hO mdX8_skip mvX8_skip w774 (ci := 8) rfl rfl (by decide) kLX_3 (As := [.int _]) (st := []) (ctX8_skip n0 hO.2.2.2.2.2.2.1 _ _) (Nat.le_of_ble_eq_true rfl) rfl rfl (Nat.le_of_ble_eq_true rfl) dX4_readDoing_17 (fun z17 => ?_)
    refine b_if_ne hO dX4_readDoing_20 (tgt := 25) (by decide) ?_ ?_
    · refine b_aload_n hO dX4_readDoing_25 1 rfl rfl ?_
      refine b_callVI hO mdX4_cornerHere mvX4_cornerHere w799 (ci := 4) rfl rfl (by decide) kLX_1 (As := []) (st := []) (ctX4_cornerHere n0 hO.2.2.2.2.2.2.1 _) (Nat.le_of_ble_eq_true rfl) rfl rfl (Nat.le_of_ble_eq_true rfl) dX4_readDoing_26 (fun z26 => ?_)
      refine b_istore_n hO dX4_readDoing_29 rfl (by decide) (lv' := [(2, .int _), (1, .int _), (0, .ref _)]) rfl ?_
      refine b_iload_n hO dX4_readDoing_30 0 rfl rfl ?_
      refine b_iconst hO dX4_readDoing_31 ic_i_m1 ?_
      refine b_icmp_ne hO dX4_readDoing_32 (tgt := 37) (by decide) ?_ ?_
      · refine b_aload_n hO dX4_readDoing_37 2 rfl rfl ?_
        refine b_get hO flX4_14 kLX_1 (v := .ref (ad 3)) rfl dX4_readDoing_38 ?_
        refine b_callVV hO mdX8_advance mvX8_advance w745 (ci := 8) rfl rfl (by decide) kLX_3 (As := []) (st := []) (ctX8_advance n0 hO.2.2.2.2.2.2.1 _) (Nat.le_of_ble_eq_true rfl) rfl rfl (Nat.le_of_ble_eq_true rfl) dX4_readDoing_41 (fun z41 => ?_)
        refine b_aload_n hO dX4_readDoing_44 2 rfl rfl ?_
        refine b_get hO flX4_14 kLX_1 (v := .ref (ad 3)) rfl dX4_readDoing_45 ?_
        refine b_sipush hO dX4_readDoing_48 ic_s_271 ?_
        refine b_callVI hO mdX8_skip mvX8_skip w774 (ci := 8) rfl rfl (by decide) kLX_3 (As := [.int _]) (st := []) (ctX8_skip n0 hO.2.2.2.2.2.2.1 _ _) (Nat.le_of_ble_eq_true rfl) rfl rfl (Nat.le_of_ble_eq_true rfl) dX4_readDoing_51 (fun z51 => ?_)
        refine b_if_eq hO dX4_readDoing_54 (tgt := 67) (by decide) ?_ ?_
        · refine b_iconst hO dX4_readDoing_67 ic_i_m1 ?_
          refine b_sub [2, 1, 0] rfl ?_
          exact tfX4_readDoing_68 n0 hO _ _ _ _
        · refine b_aload_n hO dX4_readDoing_57 2 rfl rfl ?_
          refine b_iconst hO dX4_readDoing_58 ic_i_0 ?_
          refine b_bipush hO dX4_readDoing_59 ic_b_23 ?_
          refine b_callVI hO mdX4_number mvX4_number w779 (ci := 4) rfl rfl (by decide) kLX_1 (As := [.int _, .int _]) (st := []) (ctX4_number n0 hO.2.2.2.2.2.2.1 _ _ _) (Nat.le_of_ble_eq_true rfl) rfl rfl (Nat.le_of_ble_eq_true rfl) dX4_readDoing_61 (fun z61 => ?_)
          refine b_goto hO dX4_readDoing_64 (tgt := 68) (by decide) ?_
          refine b_sub [2, 1, 0] rfl ?_
          exact tfX4_readDoing_68 n0 hO _ _ _ _
      · refine b_iconst hO dX4_readDoing_35 ic_i_0 ?_
        exact b_zretc hO (Or.inl rfl) dX4_readDoing_36
    · refine b_iconst hO dX4_readDoing_23 ic_i_0 ?_
      exact b_zretc hO (Or.inl rfl) dX4_readDoing_24
theorem ctX4_readDoing (n0 : Nat) (hI : Inj LX ad) (M : Mem) : CT l LX D cy ad yX4_readDoing cX4_readDoing 4 (some .boolean) 5 (QI LX D cy ad) [.ref (ad 1)] M (fX4_readDoing n0 M) :=
  CT.mk LXok hI (by decide) (Nat.le_of_ble_eq_true rfl) (fun hO => tfX4_readDoing n0 hO M)
/-! X4_readPass -/
def fX4_readPass (n0 : Nat) (M : Mem) : Option (Int32 × Mem) :=
  (fX4_number n0 (0 : Int32) (100 : Int32) M).bind fun z4 =>
  if z4.1 = (-1 : Int32) then
    some ((0 : Int32), z4.2)
  else
    bnd (sI z4.2 (128 * (gR z4.2 130) + 16) z4.1) fun M20 =>
    some ((1 : Int32), M20)
theorem tfX4_readPass (n0 : Nat) (hO : OKc p (rmL 5) s m args meth c LX D cy ad cX4_readPass RX4 2 5 (some .boolean)) (M : Mem) : BL p l e (rmL 5) s m args below meth c LX D cy ad 2 (QI LX D cy ad) 0 [(0, .ref (ad 1))] [] M (fX4_readPass n0 M) := by
  unfold fX4_readPass
  refine b_aload_n hO dX4_readPass_0 0 rfl rfl ?_
  refine b_iconst hO dX4_readPass_1 ic_i_0 ?_
  refine b_bipush hO dX4_readPass_2 ic_b_100 ?_
  refine b_callVI hO mdX4_number mvX4_number w779 (ci := 4) rfl rfl (by decide) kLX_1 (As := [.int _, .int _]) (st := []) (ctX4_number n0 hO.2.2.2.2.2.2.1 _ _ _) (Nat.le_of_ble_eq_true rfl) rfl rfl (Nat.le_of_ble_eq_true rfl) dX4_readPass_4 (fun z4 => ?_)
  refine b_istore_n hO dX4_readPass_7 rfl (by decide) (lv' := [(1, .int _), (0, .ref _)]) rfl ?_
  refine b_iload_n hO dX4_readPass_8 0 rfl rfl ?_
  refine b_iconst hO dX4_readPass_9 ic_i_m1 ?_
  refine b_icmp_ne hO dX4_readPass_10 (tgt := 15) (by decide) ?_ ?_
  · refine b_aload_n hO dX4_readPass_15 1 rfl rfl ?_
    refine b_getR hO flX4_35 kLX_1 (id := 130) rfl rfl (rk := 9) rfl (by decide) dX4_readPass_16 (fun hg1 => ?_)
    refine b_iload_n hO dX4_readPass_19 0 rfl rfl ?_
    refine b_putI hO flX4_161 hg1 rfl rfl rfl (id := (128 * (gR z4.2 130) + 16)) rfl dX4_readPass_20 ?_
    refine b_bnd (fun M20 => ?_)
    refine b_iconst hO dX4_readPass_23 ic_i_1 ?_
    exact b_zretc hO (Or.inr rfl) dX4_readPass_24
  · refine b_iconst hO dX4_readPass_13 ic_i_0 ?_
    exact b_zretc hO (Or.inl rfl) dX4_readPass_14
theorem ctX4_readPass (n0 : Nat) (hI : Inj LX ad) (M : Mem) : CT l LX D cy ad yX4_readPass cX4_readPass 2 (some .boolean) 5 (QI LX D cy ad) [.ref (ad 1)] M (fX4_readPass n0 M) :=
  CT.mk LXok hI (by decide) (Nat.le_of_ble_eq_true rfl) (fun hO => tfX4_readPass n0 hO M)
/-! X4_readStatement -/
def fX4_readStatement_98 (n0 : Nat) (u1 : Int32) (M : Mem) : Option (Int32 × Mem) :=
  (fX4_skipFirst n0 u1 M).bind fun z98 =>
  if z98.1 = 0 then
    some ((0 : Int32), z98.2)
  else
    (fX4_readThing n0 z98.2).bind fun z105 =>
    if z105.1 = 0 then
      some ((0 : Int32), z105.2)
    else
      some ((1 : Int32), z105.2)
def fX4_readStatement_134 (n0 : Nat) (u1 : Int32) (M : Mem) : Option (Int32 × Mem) :=
  (fX4_skipFirst n0 u1 M).bind fun z134 =>
  if z134.1 = 0 then
    some ((0 : Int32), z134.2)
  else
    (fX4_readCorner n0 z134.2).bind fun z141 =>
    if z141.1 = 0 then
      some ((0 : Int32), z141.2)
    else
      some ((1 : Int32), z141.2)
def fX4_readStatement_171 (n0 : Nat) (u1 : Int32) (M : Mem) : Option (Int32 × Mem) :=
  (fX4_skipFirst n0 u1 M).bind fun z171 =>
  if z171.1 = 0 then
    some ((0 : Int32), z171.2)
  else
    (fX4_readRoad n0 z171.2).bind fun z178 =>
    if z178.1 = 0 then
      some ((0 : Int32), z178.2)
    else
      some ((1 : Int32), z178.2)
def fX4_readStatement_229 (n0 : Nat) (u1 : Int32) (M : Mem) : Option (Int32 × Mem) :=
  (fX4_skipFirst n0 u1 M).bind fun z229 =>
  if z229.1 = 0 then
    some ((0 : Int32), z229.2)
  else
    (fX4_readDoing n0 z229.2).bind fun z236 =>
    if z236.1 = 0 then
      some ((0 : Int32), z236.2)
    else
      some ((1 : Int32), z236.2)
def fX4_readStatement_267 (n0 : Nat) (u1 : Int32) (M : Mem) : Option (Int32 × Mem) :=
  (fX4_skipFirst n0 u1 M).bind fun z267 =>
  if z267.1 = 0 then
    some ((0 : Int32), z267.2)
  else
    (fX3_readSays n0 ((gR z267.2 130) + 12) z267.2).bind fun z284 =>
    if z284.1 = 0 then
      some ((0 : Int32), z284.2)
    else
      some ((1 : Int32), z284.2)
def fX4_readStatement_315 (n0 : Nat) (u1 : Int32) (M : Mem) : Option (Int32 × Mem) :=
  (fX4_skipFirst n0 u1 M).bind fun z315 =>
  if z315.1 = 0 then
    some ((0 : Int32), z315.2)
  else
    (fX3_readGone n0 ((gR z315.2 130) + 14) z315.2).bind fun z332 =>
    if z332.1 = 0 then
      some ((0 : Int32), z332.2)
    else
      some ((1 : Int32), z332.2)
def fX4_readStatement_365 (n0 : Nat) (M : Mem) : Option (Int32 × Mem) :=
  (fX8_failHere n0 M).bind fun z369 =>
  if z369.1 = 0 ∨ z369.1 = 1 then some (z369.1, z369.2) else none
def fX4_readStatement (n0 : Nat) (M : Mem) : Option (Int32 × Mem) :=
  if (gI M 386) = 260 then
    if (6 : Int32) ≤ (gI M (128 * (gR M 130) + 1)) then
      fX4_readStatement_98 n0 (0 : Int32) M
    else
      fX4_readStatement_98 n0 (1 : Int32) M
  else
  if (gI M 386) = 261 then
    fX4_readStatement_365 n0 M
  else
  if (gI M 386) = 262 then
    fX4_readStatement_365 n0 M
  else
  if (gI M 386) = 263 then
    if (5 : Int32) ≤ (gI M (128 * (gR M 130) + 5)) then
      fX4_readStatement_134 n0 (0 : Int32) M
    else
      fX4_readStatement_134 n0 (1 : Int32) M
  else
  if (gI M 386) = 264 then
    if (10 : Int32) ≤ (gI M (128 * (gR M 130) + 8)) then
      fX4_readStatement_171 n0 (0 : Int32) M
    else
      fX4_readStatement_171 n0 (1 : Int32) M
  else
  if (gI M 386) = 265 then
    fX4_readStatement_365 n0 M
  else
  if (gI M 386) = 266 then
    fX4_readStatement_365 n0 M
  else
  if (gI M 386) = 267 then
    (fX4_skipFirst n0 (1 : Int32) M).bind fun z192 =>
    if z192.1 = 0 then
      some ((0 : Int32), z192.2)
    else
      (fX4_readPalm n0 z192.2).bind fun z199 =>
      if z199.1 = 0 then
        some ((0 : Int32), z199.2)
      else
        some ((1 : Int32), z199.2)
  else
  if (gI M 386) = 268 then
    fX4_readStatement_365 n0 M
  else
  if (gI M 386) = 269 then
    if (6 : Int32) ≤ (gI M (128 * (gR M 130) + 12)) then
      fX4_readStatement_229 n0 (0 : Int32) M
    else
      fX4_readStatement_229 n0 (1 : Int32) M
  else
  if (gI M 386) = 270 then
    fX4_readStatement_365 n0 M
  else
  if (gI M 386) = 271 then
    fX4_readStatement_365 n0 M
  else
  if (gI M 386) = 272 then
    (fX0_isTold n0 ((gR M 130) + 12) M).bind fun z256 =>
    if z256.1 = 0 then
      fX4_readStatement_267 n0 (1 : Int32) z256.2
    else
      fX4_readStatement_267 n0 (0 : Int32) z256.2
  else
  if (gI M 386) = 273 then
    (fX0_isTold n0 ((gR M 130) + 14) M).bind fun z304 =>
    if z304.1 = 0 then
      fX4_readStatement_315 n0 (1 : Int32) z304.2
    else
      fX4_readStatement_315 n0 (0 : Int32) z304.2
  else
  if (gI M 386) = 274 then
    (fX4_skipFirst n0 (1 : Int32) M).bind fun z346 =>
    if z346.1 = 0 then
      some ((0 : Int32), z346.2)
    else
      (fX4_readPass n0 z346.2).bind fun z353 =>
      if z353.1 = 0 then
        some ((0 : Int32), z353.2)
      else
        some ((1 : Int32), z353.2)
  else
  fX4_readStatement_365 n0 M
theorem tfX4_readStatement_98 (n0 : Nat) (hO : OKc p (rmL 107) s m args meth c LX D cy ad cX4_readStatement RX4 1 107 (some .boolean)) (u1 : Int32) (M : Mem) : BL p l e (rmL 107) s m args below meth c LX D cy ad 1 (QI LX D cy ad) 98 [(0, .ref (ad 1))] [.int u1, .ref (ad 1)] M (fX4_readStatement_98 n0 u1 M) := by
  unfold fX4_readStatement_98
  refine b_callVI hO mdX4_skipFirst mvX4_skipFirst w737 (ci := 4) rfl rfl (by decide) kLX_1 (As := [.int _]) (st := []) (ctX4_skipFirst n0 hO.2.2.2.2.2.2.1 _ _) (Nat.le_of_ble_eq_true rfl) rfl rfl (Nat.le_of_ble_eq_true rfl) dX4_readStatement_98 (fun z98 => ?_)
  refine b_if_eq hO dX4_readStatement_101 (tgt := 115) (by decide) ?_ ?_
  · refine b_iconst hO dX4_readStatement_115 ic_i_0 ?_
    exact b_zretc hO (Or.inl rfl) dX4_readStatement_116
  · refine b_aload_n hO dX4_readStatement_104 0 rfl rfl ?_
    refine b_callVI hO mdX4_readThing mvX4_readThing w746 (ci := 4) rfl rfl (by decide) kLX_1 (As := []) (st := []) (ctX4_readThing n0 hO.2.2.2.2.2.2.1 _) (Nat.le_of_ble_eq_true rfl) rfl rfl (Nat.le_of_ble_eq_true rfl) dX4_readStatement_105 (fun z105 => ?_)
    refine b_if_eq hO dX4_readStatement_108 (tgt := 115) (by decide) ?_ ?_
    · refine b_iconst hO dX4_readStatement_115 ic_i_0 ?_
      exact b_zretc hO (Or.inl rfl) dX4_readStatement_116
    · refine b_iconst hO dX4_readStatement_111 ic_i_1 ?_
      refine b_goto hO dX4_readStatement_112 (tgt := 116) (by decide) ?_
      exact b_zretc hO (Or.inr rfl) dX4_readStatement_116
theorem tfX4_readStatement_134 (n0 : Nat) (hO : OKc p (rmL 107) s m args meth c LX D cy ad cX4_readStatement RX4 1 107 (some .boolean)) (u1 : Int32) (M : Mem) : BL p l e (rmL 107) s m args below meth c LX D cy ad 1 (QI LX D cy ad) 134 [(0, .ref (ad 1))] [.int u1, .ref (ad 1)] M (fX4_readStatement_134 n0 u1 M) := by
  unfold fX4_readStatement_134
  refine b_callVI hO mdX4_skipFirst mvX4_skipFirst w737 (ci := 4) rfl rfl (by decide) kLX_1 (As := [.int _]) (st := []) (ctX4_skipFirst n0 hO.2.2.2.2.2.2.1 _ _) (Nat.le_of_ble_eq_true rfl) rfl rfl (Nat.le_of_ble_eq_true rfl) dX4_readStatement_134 (fun z134 => ?_)
  refine b_if_eq hO dX4_readStatement_137 (tgt := 151) (by decide) ?_ ?_
  · refine b_iconst hO dX4_readStatement_151 ic_i_0 ?_
    exact b_zretc hO (Or.inl rfl) dX4_readStatement_152
  · refine b_aload_n hO dX4_readStatement_140 0 rfl rfl ?_
    refine b_callVI hO mdX4_readCorner mvX4_readCorner w787 (ci := 4) rfl rfl (by decide) kLX_1 (As := []) (st := []) (ctX4_readCorner n0 hO.2.2.2.2.2.2.1 _) (Nat.le_of_ble_eq_true rfl) rfl rfl (Nat.le_of_ble_eq_true rfl) dX4_readStatement_141 (fun z141 => ?_)
    refine b_if_eq hO dX4_readStatement_144 (tgt := 151) (by decide) ?_ ?_
    · refine b_iconst hO dX4_readStatement_151 ic_i_0 ?_
      exact b_zretc hO (Or.inl rfl) dX4_readStatement_152
    · refine b_iconst hO dX4_readStatement_147 ic_i_1 ?_
      refine b_goto hO dX4_readStatement_148 (tgt := 152) (by decide) ?_
      exact b_zretc hO (Or.inr rfl) dX4_readStatement_152
theorem tfX4_readStatement_171 (n0 : Nat) (hO : OKc p (rmL 107) s m args meth c LX D cy ad cX4_readStatement RX4 1 107 (some .boolean)) (u1 : Int32) (M : Mem) : BL p l e (rmL 107) s m args below meth c LX D cy ad 1 (QI LX D cy ad) 171 [(0, .ref (ad 1))] [.int u1, .ref (ad 1)] M (fX4_readStatement_171 n0 u1 M) := by
  unfold fX4_readStatement_171
  refine b_callVI hO mdX4_skipFirst mvX4_skipFirst w737 (ci := 4) rfl rfl (by decide) kLX_1 (As := [.int _]) (st := []) (ctX4_skipFirst n0 hO.2.2.2.2.2.2.1 _ _) (Nat.le_of_ble_eq_true rfl) rfl rfl (Nat.le_of_ble_eq_true rfl) dX4_readStatement_171 (fun z171 => ?_)
  refine b_if_eq hO dX4_readStatement_174 (tgt := 188) (by decide) ?_ ?_
  · refine b_iconst hO dX4_readStatement_188 ic_i_0 ?_
    exact b_zretc hO (Or.inl rfl) dX4_readStatement_189
  · refine b_aload_n hO dX4_readStatement_177 0 rfl rfl ?_
    refine b_callVI hO mdX4_readRoad mvX4_readRoad w795 (ci := 4) rfl rfl (by decide) kLX_1 (As := []) (st := []) (ctX4_readRoad n0 hO.2.2.2.2.2.2.1 _) (Nat.le_of_ble_eq_true rfl) rfl rfl (Nat.le_of_ble_eq_true rfl) dX4_readStatement_178 (fun z178 => ?_)
    refine b_if_eq hO dX4_readStatement_181 (tgt := 188) (by decide) ?_ ?_
    · refine b_iconst hO dX4_readStatement_188 ic_i_0 ?_
      exact b_zretc hO (Or.inl rfl) dX4_readStatement_189
    · refine b_iconst hO dX4_readStatement_184 ic_i_1 ?_
      refine b_goto hO dX4_readStatement_185 (tgt := 189) (by decide) ?_
      exact b_zretc hO (Or.inr rfl) dX4_readStatement_189
theorem tfX4_readStatement_229 (n0 : Nat) (hO : OKc p (rmL 107) s m args meth c LX D cy ad cX4_readStatement RX4 1 107 (some .boolean)) (u1 : Int32) (M : Mem) : BL p l e (rmL 107) s m args below meth c LX D cy ad 1 (QI LX D cy ad) 229 [(0, .ref (ad 1))] [.int u1, .ref (ad 1)] M (fX4_readStatement_229 n0 u1 M) := by
  unfold fX4_readStatement_229
  refine b_callVI hO mdX4_skipFirst mvX4_skipFirst w737 (ci := 4) rfl rfl (by decide) kLX_1 (As := [.int _]) (st := []) (ctX4_skipFirst n0 hO.2.2.2.2.2.2.1 _ _) (Nat.le_of_ble_eq_true rfl) rfl rfl (Nat.le_of_ble_eq_true rfl) dX4_readStatement_229 (fun z229 => ?_)
  refine b_if_eq hO dX4_readStatement_232 (tgt := 246) (by decide) ?_ ?_
  · refine b_iconst hO dX4_readStatement_246 ic_i_0 ?_
    exact b_zretc hO (Or.inl rfl) dX4_readStatement_247
  · refine b_aload_n hO dX4_readStatement_235 0 rfl rfl ?_
    refine b_callVI hO mdX4_readDoing mvX4_readDoing w815 (ci := 4) rfl rfl (by decide) kLX_1 (As := []) (st := []) (ctX4_readDoing n0 hO.2.2.2.2.2.2.1 _) (Nat.le_of_ble_eq_true rfl) rfl rfl (Nat.le_of_ble_eq_true rfl) dX4_readStatement_236 (fun z236 => ?_)
    refine b_if_eq hO dX4_readStatement_239 (tgt := 246) (by decide) ?_ ?_
    · refine b_iconst hO dX4_readStatement_246 ic_i_0 ?_
      exact b_zretc hO (Or.inl rfl) dX4_readStatement_247
    · refine b_iconst hO dX4_readStatement_242 ic_i_1 ?_
      refine b_goto hO dX4_readStatement_243 (tgt := 247) (by decide) ?_
      exact b_zretc hO (Or.inr rfl) dX4_readStatement_247
theorem tfX4_readStatement_267 (n0 : Nat) (hO : OKc p (rmL 107) s m args meth c LX D cy ad cX4_readStatement RX4 1 107 (some .boolean)) (u1 : Int32) (M : Mem) : BL p l e (rmL 107) s m args below meth c LX D cy ad 1 (QI LX D cy ad) 267 [(0, .ref (ad 1))] [.int u1, .ref (ad 1)] M (fX4_readStatement_267 n0 u1 M) := by
  unfold fX4_readStatement_267
  refine b_callVI hO mdX4_skipFirst mvX4_skipFirst w737 (ci := 4) rfl rfl (by decide) kLX_1 (As := [.int _]) (st := []) (ctX4_skipFirst n0 hO.2.2.2.2.2.2.1 _ _) (Nat.le_of_ble_eq_true rfl) rfl rfl (Nat.le_of_ble_eq_true rfl) dX4_readStatement_267 (fun z267 => ?_)
  refine b_if_eq hO dX4_readStatement_270 (tgt := 294) (by decide) ?_ ?_
  · refine b_iconst hO dX4_readStatement_294 ic_i_0 ?_
    exact b_zretc hO (Or.inl rfl) dX4_readStatement_295
  · refine b_aload_n hO dX4_readStatement_273 0 rfl rfl ?_
    refine b_get hO flX4_31 kLX_1 (v := .ref (ad 2)) rfl dX4_readStatement_274 ?_
    refine b_aload_n hO dX4_readStatement_277 0 rfl rfl ?_
    refine b_getR hO flX4_35 kLX_1 (id := 130) rfl rfl (rk := 9) rfl (by decide) dX4_readStatement_278 (fun hg1 => ?_)
    refine b_get hO flX4_22 hg1 (v := .ref (ad ((gR z267.2 130) + 12))) rfl dX4_readStatement_281 ?_
    refine b_callVI hO mdX3_readSays mvX3_readSays w824 (ci := 3) rfl rfl (by decide) kLX_2 (As := [.ref _]) (st := []) (ctX3_readSays n0 _ (kt_9_12 hg1) hO.2.2.2.2.2.2.1 _) (Nat.le_of_ble_eq_true rfl) rfl rfl (Nat.le_of_ble_eq_true rfl) dX4_readStatement_284 (fun z284 => ?_)
    refine b_if_eq hO dX4_readStatement_287 (tgt := 294) (by decide) ?_ ?_
    · refine b_iconst hO dX4_readStatement_294 ic_i_0 ?_
      exact b_zretc hO (Or.inl rfl) dX4_readStatement_295
    · refine b_iconst hO dX4_readStatement_290 ic_i_1 ?_
      refine b_goto hO dX4_readStatement_291 (tgt := 295) (by decide) ?_
      exact b_zretc hO (Or.inr rfl) dX4_readStatement_295
theorem tfX4_readStatement_315 (n0 : Nat) (hO : OKc p (rmL 107) s m args meth c LX D cy ad cX4_readStatement RX4 1 107 (some .boolean)) (u1 : Int32) (M : Mem) : BL p l e (rmL 107) s m args below meth c LX D cy ad 1 (QI LX D cy ad) 315 [(0, .ref (ad 1))] [.int u1, .ref (ad 1)] M (fX4_readStatement_315 n0 u1 M) := by
  unfold fX4_readStatement_315
  refine b_callVI hO mdX4_skipFirst mvX4_skipFirst w737 (ci := 4) rfl rfl (by decide) kLX_1 (As := [.int _]) (st := []) (ctX4_skipFirst n0 hO.2.2.2.2.2.2.1 _ _) (Nat.le_of_ble_eq_true rfl) rfl rfl (Nat.le_of_ble_eq_true rfl) dX4_readStatement_315 (fun z315 => ?_)
  refine b_if_eq hO dX4_readStatement_318 (tgt := 342) (by decide) ?_ ?_
  · refine b_iconst hO dX4_readStatement_342 ic_i_0 ?_
    exact b_zretc hO (Or.inl rfl) dX4_readStatement_343
  · refine b_aload_n hO dX4_readStatement_321 0 rfl rfl ?_
    refine b_get hO flX4_31 kLX_1 (v := .ref (ad 2)) rfl dX4_readStatement_322 ?_
    refine b_aload_n hO dX4_readStatement_325 0 rfl rfl ?_
    refine b_getR hO flX4_35 kLX_1 (id := 130) rfl rfl (rk := 9) rfl (by decide) dX4_readStatement_326 (fun hg1 => ?_)
    refine b_get hO flX4_107 hg1 (v := .ref (ad ((gR z315.2 130) + 14))) rfl dX4_readStatement_329 ?_
    refine b_callVI hO mdX3_readGone mvX3_readGone w896 (ci := 3) rfl rfl (by decide) kLX_2 (As := [.ref _]) (st := []) (ctX3_readGone n0 _ (kt_9_14 hg1) hO.2.2.2.2.2.2.1 _) (Nat.le_of_ble_eq_true rfl) rfl rfl (Nat.le_of_ble_eq_true rfl) dX4_readStatement_332 (fun z332 => ?_)
    refine b_if_eq hO dX4_readStatement_335 (tgt := 342) (by decide) ?_ ?_
    · refine b_iconst hO dX4_readStatement_342 ic_i_0 ?_
      exact b_zretc hO (Or.inl rfl) dX4_readStatement_343
    · refine b_iconst hO dX4_readStatement_338 ic_i_1 ?_
      refine b_goto hO dX4_readStatement_339 (tgt := 343) (by decide) ?_
      exact b_zretc hO (Or.inr rfl) dX4_readStatement_343
theorem tfX4_readStatement_365 (n0 : Nat) (hO : OKc p (rmL 107) s m args meth c LX D cy ad cX4_readStatement RX4 1 107 (some .boolean)) (M : Mem) : BL p l e (rmL 107) s m args below meth c LX D cy ad 1 (QI LX D cy ad) 365 [(0, .ref (ad 1))] [] M (fX4_readStatement_365 n0 M) := by
  unfold fX4_readStatement_365
  refine b_aload_n hO dX4_readStatement_365 0 rfl rfl ?_
  refine b_get hO flX4_14 kLX_1 (v := .ref (ad 3)) rfl dX4_readStatement_366 ?_
  refine b_callVI hO mdX8_failHere mvX8_failHere w754 (ci := 8) rfl rfl (by decide) kLX_3 (As := []) (st := []) (ctX8_failHere n0 hO.2.2.2.2.2.2.1 _) (Nat.le_of_ble_eq_true rfl) rfl rfl (Nat.le_of_ble_eq_true rfl) dX4_readStatement_369 (fun z369 => ?_)
  exact b_zret hO dX4_readStatement_372
theorem tfX4_readStatement (n0 : Nat) (hO : OKc p (rmL 107) s m args meth c LX D cy ad cX4_readStatement RX4 1 107 (some .boolean)) (M : Mem) : BL p l e (rmL 107) s m args below meth c LX D cy ad 1 (QI LX D cy ad) 0 [(0, .ref (ad 1))] [] M (fX4_readStatement n0 M) := by
  unfold fX4_readStatement
  refine b_aload_n hO dX4_readStatement_0 0 rfl rfl ?_
  refine b_get hO flX4_14 kLX_1 (v := .ref (ad 3)) rfl dX4_readStatement_1 ?_
  refine b_get hO flX4_45 kLX_3 (v := .int (gI _ 386)) rfl dX4_readStatement_4 ?_
  refine b_tabIn hO dX4_readStatement_7 (v := 260) (z := 260) (tgt := 80) (by decide) (by decide) (by decide) rfl (by decide) ?_ (fun hn0 => ?_)
  · refine b_aload_n hO dX4_readStatement_80 0 rfl rfl ?_
    refine b_aload_n hO dX4_readStatement_81 0 rfl rfl ?_
    refine b_getR hO flX4_35 kLX_1 (id := 130) rfl rfl (rk := 9) rfl (by decide) dX4_readStatement_82 (fun hg1 => ?_)
    refine b_get hO flX4_67 hg1 (v := .int (gI _ (128 * (gR M 130) + 1))) rfl dX4_readStatement_85 ?_
    refine b_bipush hO dX4_readStatement_88 ic_b_6 ?_
    refine b_icmp_ge hO dX4_readStatement_90 (tgt := 97) (by decide) ?_ ?_
    · refine b_iconst hO dX4_readStatement_97 ic_i_0 ?_
      exact tfX4_readStatement_98 n0 hO _ _
    · refine b_iconst hO dX4_readStatement_93 ic_i_1 ?_
      refine b_goto hO dX4_readStatement_94 (tgt := 98) (by decide) ?_
      exact tfX4_readStatement_98 n0 hO _ _
  refine b_tabIn hO dX4_readStatement_7 (v := 261) (z := 261) (tgt := 365) (by decide) (by decide) (by decide) rfl (by decide) ?_ (fun hn1 => ?_)
  · exact tfX4_readStatement_365 n0 hO _
  refine b_tabIn hO dX4_readStatement_7 (v := 262) (z := 262) (tgt := 365) (by decide) (by decide) (by decide) rfl (by decide) ?_ (fun hn2 => ?_)
  · exact tfX4_readStatement_365 n0 hO _
  refine b_tabIn hO dX4_readStatement_7 (v := 263) (z := 263) (tgt := 117) (by decide) (by decide) (by decide) rfl (by decide) ?_ (fun hn3 => ?_)
  · refine b_aload_n hO dX4_readStatement_117 0 rfl rfl ?_
    refine b_aload_n hO dX4_readStatement_118 0 rfl rfl ?_
    refine b_getR hO flX4_35 kLX_1 (id := 130) rfl rfl (rk := 9) rfl (by decide) dX4_readStatement_119 (fun hg2 => ?_)
    refine b_get hO flX4_77 hg2 (v := .int (gI _ (128 * (gR M 130) + 5))) rfl dX4_readStatement_122 ?_
    refine b_iconst hO dX4_readStatement_125 ic_i_5 ?_
    refine b_icmp_ge hO dX4_readStatement_126 (tgt := 133) (by decide) ?_ ?_
    · refine b_iconst hO dX4_readStatement_133 ic_i_0 ?_
      exact tfX4_readStatement_134 n0 hO _ _
    · refine b_iconst hO dX4_readStatement_129 ic_i_1 ?_
      refine b_goto hO dX4_readStatement_130 (tgt := 134) (by decide) ?_
      exact tfX4_readStatement_134 n0 hO _ _
  refine b_tabIn hO dX4_readStatement_7 (v := 264) (z := 264) (tgt := 153) (by decide) (by decide) (by decide) rfl (by decide) ?_ (fun hn4 => ?_)
  · refine b_aload_n hO dX4_readStatement_153 0 rfl rfl ?_
    refine b_aload_n hO dX4_readStatement_154 0 rfl rfl ?_
    refine b_getR hO flX4_35 kLX_1 (id := 130) rfl rfl (rk := 9) rfl (by decide) dX4_readStatement_155 (fun hg3 => ?_)
    refine b_get hO flX4_83 hg3 (v := .int (gI _ (128 * (gR M 130) + 8))) rfl dX4_readStatement_158 ?_
    refine b_bipush hO dX4_readStatement_161 ic_b_10 ?_
    refine b_icmp_ge hO dX4_readStatement_163 (tgt := 170) (by decide) ?_ ?_
    · refine b_iconst hO dX4_readStatement_170 ic_i_0 ?_
      exact tfX4_readStatement_171 n0 hO _ _
    · refine b_iconst hO dX4_readStatement_166 ic_i_1 ?_
      refine b_goto hO dX4_readStatement_167 (tgt := 171) (by decide) ?_
      exact tfX4_readStatement_171 n0 hO _ _
  refine b_tabIn hO dX4_readStatement_7 (v := 265) (z := 265) (tgt := 365) (by decide) (by decide) (by decide) rfl (by decide) ?_ (fun hn5 => ?_)
  · exact tfX4_readStatement_365 n0 hO _
  refine b_tabIn hO dX4_readStatement_7 (v := 266) (z := 266) (tgt := 365) (by decide) (by decide) (by decide) rfl (by decide) ?_ (fun hn6 => ?_)
  · exact tfX4_readStatement_365 n0 hO _
  refine b_tabIn hO dX4_readStatement_7 (v := 267) (z := 267) (tgt := 190) (by decide) (by decide) (by decide) rfl (by decide) ?_ (fun hn7 => ?_)
  · refine b_aload_n hO dX4_readStatement_190 0 rfl rfl ?_
    refine b_iconst hO dX4_readStatement_191 ic_i_1 ?_
    refine b_callVI hO mdX4_skipFirst mvX4_skipFirst w737 (ci := 4) rfl rfl (by decide) kLX_1 (As := [.int _]) (st := []) (ctX4_skipFirst n0 hO.2.2.2.2.2.2.1 _ _) (Nat.le_of_ble_eq_true rfl) rfl rfl (Nat.le_of_ble_eq_true rfl) dX4_readStatement_192 (fun z192 => ?_)
    refine b_if_eq hO dX4_readStatement_195 (tgt := 209) (by decide) ?_ ?_
    · refine b_iconst hO dX4_readStatement_209 ic_i_0 ?_
      exact b_zretc hO (Or.inl rfl) dX4_readStatement_210
    · refine b_aload_n hO dX4_readStatement_198 0 rfl rfl ?_
      refine b_callVI hO mdX4_readPalm mvX4_readPalm w811 (ci := 4) rfl rfl (by decide) kLX_1 (As := []) (st := []) (ctX4_readPalm n0 hO.2.2.2.2.2.2.1 _) (Nat.le_of_ble_eq_true rfl) rfl rfl (Nat.le_of_ble_eq_true rfl) dX4_readStatement_199 (fun z199 => ?_)
      refine b_if_eq hO dX4_readStatement_202 (tgt := 209) (by decide) ?_ ?_
      · refine b_iconst hO dX4_readStatement_209 ic_i_0 ?_
        exact b_zretc hO (Or.inl rfl) dX4_readStatement_210
      · refine b_iconst hO dX4_readStatement_205 ic_i_1 ?_
        refine b_goto hO dX4_readStatement_206 (tgt := 210) (by decide) ?_
        exact b_zretc hO (Or.inr rfl) dX4_readStatement_210
  refine b_tabIn hO dX4_readStatement_7 (v := 268) (z := 268) (tgt := 365) (by decide) (by decide) (by decide) rfl (by decide) ?_ (fun hn8 => ?_)
  · exact tfX4_readStatement_365 n0 hO _
  refine b_tabIn hO dX4_readStatement_7 (v := 269) (z := 269) (tgt := 211) (by decide) (by decide) (by decide) rfl (by decide) ?_ (fun hn9 => ?_)
  · refine b_aload_n hO dX4_readStatement_211 0 rfl rfl ?_
    refine b_aload_n hO dX4_readStatement_212 0 rfl rfl ?_
    refine b_getR hO flX4_35 kLX_1 (id := 130) rfl rfl (rk := 9) rfl (by decide) dX4_readStatement_213 (fun hg4 => ?_)
    refine b_get hO flX4_92 hg4 (v := .int (gI _ (128 * (gR M 130) + 12))) rfl dX4_readStatement_216 ?_
    refine b_bipush hO dX4_readStatement_219 ic_b_6 ?_
    refine b_icmp_ge hO dX4_readStatement_221 (tgt := 228) (by decide) ?_ ?_
    · refine b_iconst hO dX4_readStatement_228 ic_i_0 ?_
      exact tfX4_readStatement_229 n0 hO _ _
    · refine b_iconst hO dX4_readStatement_224 ic_i_1 ?_
      refine b_goto hO dX4_readStatement_225 (tgt := 229) (by decide) ?_
      exact tfX4_readStatement_229 n0 hO _ _
  refine b_tabIn hO dX4_readStatement_7 (v := 270) (z := 270) (tgt := 365) (by decide) (by decide) (by decide) rfl (by decide) ?_ (fun hn10 => ?_)
  · exact tfX4_readStatement_365 n0 hO _
  refine b_tabIn hO dX4_readStatement_7 (v := 271) (z := 271) (tgt := 365) (by decide) (by decide) (by decide) rfl (by decide) ?_ (fun hn11 => ?_)
  · exact tfX4_readStatement_365 n0 hO _
  refine b_tabIn hO dX4_readStatement_7 (v := 272) (z := 272) (tgt := 248) (by decide) (by decide) (by decide) rfl (by decide) ?_ (fun hn12 => ?_)
  · refine b_aload_n hO dX4_readStatement_248 0 rfl rfl ?_
    refine b_aload_n hO dX4_readStatement_249 0 rfl rfl ?_
    refine b_getR hO flX4_35 kLX_1 (id := 130) rfl rfl (rk := 9) rfl (by decide) dX4_readStatement_250 (fun hg5 => ?_)
    refine b_get hO flX4_22 hg5 (v := .ref (ad ((gR M 130) + 12))) rfl dX4_readStatement_253 ?_
    refine b_callVI hO mdX0_isTold mvX0_isTold w823 (ci := 0) rfl rfl (by decide) (kt_9_12 hg5) (As := []) (st := [.ref _]) (ctX0_isTold n0 _ (kt_9_12 hg5) hO.2.2.2.2.2.2.1 _) (Nat.le_of_ble_eq_true rfl) rfl rfl (Nat.le_of_ble_eq_true rfl) dX4_readStatement_256 (fun z256 => ?_)
    refine b_if_ne hO dX4_readStatement_259 (tgt := 266) (by decide) ?_ ?_
    · refine b_iconst hO dX4_readStatement_266 ic_i_0 ?_
      exact tfX4_readStatement_267 n0 hO _ _
    · refine b_iconst hO dX4_readStatement_262 ic_i_1 ?_
      refine b_goto hO dX4_readStatement_263 (tgt := 267) (by decide) ?_
      exact tfX4_readStatement_267 n0 hO _ _
  refine b_tabIn hO dX4_readStatement_7 (v := 273) (z := 273) (tgt := 296) (by decide) (by decide) (by decide) rfl (by decide) ?_ (fun hn13 => ?_)
  · refine b_aload_n hO dX4_readStatement_296 0 rfl rfl ?_
    refine b_aload_n hO dX4_readStatement_297 0 rfl rfl ?_
    refine b_getR hO flX4_35 kLX_1 (id := 130) rfl rfl (rk := 9) rfl (by decide) dX4_readStatement_298 (fun hg6 => ?_)
    refine b_get hO flX4_107 hg6 (v := .ref (ad ((gR M 130) + 14))) rfl dX4_readStatement_301 ?_
    refine b_callVI hO mdX0_isTold mvX0_isTold w823 (ci := 0) rfl rfl (by decide) (kt_9_14 hg6) (As := []) (st := [.ref _]) (ctX0_isTold n0 _ (kt_9_14 hg6) hO.2.2.2.2.2.2.1 _) (Nat.le_of_ble_eq_true rfl) rfl rfl (Nat.le_of_ble_eq_true rfl) dX4_readStatement_304 (fun z304 => ?_)
    refine b_if_ne hO dX4_readStatement_307 (tgt := 314) (by decide) ?_ ?_
    · refine b_iconst hO dX4_readStatement_314 ic_i_0 ?_
      exact tfX4_readStatement_315 n0 hO _ _
    · refine b_iconst hO dX4_readStatement_310 ic_i_1 ?_
      refine b_goto hO dX4_readStatement_311 (tgt := 315) (by decide) ?_
      exact tfX4_readStatement_315 n0 hO _ _
  refine b_tabIn hO dX4_readStatement_7 (v := 274) (z := 274) (tgt := 344) (by decide) (by decide) (by decide) rfl (by decide) ?_ (fun hn14 => ?_)
  · refine b_aload_n hO dX4_readStatement_344 0 rfl rfl ?_
    refine b_iconst hO dX4_readStatement_345 ic_i_1 ?_
    refine b_callVI hO mdX4_skipFirst mvX4_skipFirst w737 (ci := 4) rfl rfl (by decide) kLX_1 (As := [.int _]) (st := []) (ctX4_skipFirst n0 hO.2.2.2.2.2.2.1 _ _) (Nat.le_of_ble_eq_true rfl) rfl rfl (Nat.le_of_ble_eq_true rfl) dX4_readStatement_346 (fun z346 => ?_)
    refine b_if_eq hO dX4_readStatement_349 (tgt := 363) (by decide) ?_ ?_
    · refine b_iconst hO dX4_readStatement_363 ic_i_0 ?_
      exact b_zretc hO (Or.inl rfl) dX4_readStatement_364
    · refine b_aload_n hO dX4_readStatement_352 0 rfl rfl ?_
      refine b_callVI hO mdX4_readPass mvX4_readPass w900 (ci := 4) rfl rfl (by decide) kLX_1 (As := []) (st := []) (ctX4_readPass n0 hO.2.2.2.2.2.2.1 _) (Nat.le_of_ble_eq_true rfl) rfl rfl (Nat.le_of_ble_eq_true rfl) dX4_readStatement_353 (fun z353 => ?_)
      refine b_if_eq hO dX4_readStatement_356 (tgt := 363) (by decide) ?_ ?_
      · refine b_iconst hO dX4_readStatement_363 ic_i_0 ?_
        exact b_zretc hO (Or.inl rfl) dX4_readStatement_364
      · refine b_iconst hO dX4_readStatement_359 ic_i_1 ?_
        refine b_goto hO dX4_readStatement_360 (tgt := 364) (by decide) ?_
        exact b_zretc hO (Or.inr rfl) dX4_readStatement_364
  refine b_tabOut hO dX4_readStatement_7 (tgt := 365) (by omega) (by decide) ?_
  exact tfX4_readStatement_365 n0 hO _
theorem ctX4_readStatement (n0 : Nat) (hI : Inj LX ad) (M : Mem) : CT l LX D cy ad yX4_readStatement cX4_readStatement 1 (some .boolean) 107 (QI LX D cy ad) [.ref (ad 1)] M (fX4_readStatement n0 M) :=
  CT.mk LXok hI (by decide) (Nat.le_of_ble_eq_true rfl) (fun hO => tfX4_readStatement n0 hO M)
/-! X4_read -/
def fX4_read_80 (n0 : Nat) (q1 : Nat) (M : Mem) : Option (Int32 × Mem) :=
  if (gI M 386) = (259 : Int32) then
    some ((1 : Int32), M)
  else
    (fX8_fail n0 (6 : Int32) (gI M 387) M).bind fun z106 =>
    if z106.1 = 0 then
      some ((0 : Int32), z106.2)
    else
      some ((1 : Int32), z106.2)
def bX4_read_21 (n0 : Nat) (q1 : Nat) (k21 : Int32 → Mem → Option (Int32 × Mem)) (x2 : Int32) (M : Mem) : Option (Int32 × Mem) :=
  if (80 : Int32) ≤ x2 then
    fX4_read_80 n0 q1 M
  else
    if (gI M 386) = (259 : Int32) then
      fX4_read_80 n0 q1 M
    else
      (fX4_readStatement n0 M).bind fun z41 =>
      if z41.1 = 0 then
        some ((0 : Int32), z41.2)
      else
        (fX8_skip n0 (59 : Int32) z41.2).bind fun z53 =>
        if z53.1 = 0 then
          some ((0 : Int32), z53.2)
        else
          bnd (sI z53.2 (128 * (gR z53.2 130) + 0) ((gI z53.2 (128 * (gR z53.2 130) + 0)) + (1 : Int32))) fun M71 =>
          k21 (x2 + (1 : Int32)) M71
def fX4_read_21 (n0 : Nat) (q1 : Nat) : Int32 → Mem → Option (Int32 × Mem) := loopN (bX4_read_21 n0 q1) (fun _ _ => none) n0
def fX4_read (n0 : Nat) (q1 : Nat) (M : Mem) : Option (Int32 × Mem) :=
  bnd (sR M 130 q1) fun M2 =>
  (fX9_clear n0 (gR M2 130) M2).bind fun z9 =>
  (fX8_begin n0 z9).bind fun z16 =>
  fX4_read_21 n0 q1 (0 : Int32) z16
theorem tfX4_read_80 (n0 : Nat) (q1 : Nat) (hq1 : isK LX q1 9) (hO : OKc p (rmL 108) s m args meth c LX D cy ad cX4_read RX4 3 108 (some .boolean)) (M : Mem) : BL p l e (rmL 108) s m args below meth c LX D cy ad 3 (QI LX D cy ad) 80 [(0, .ref (ad 1))] [] M (fX4_read_80 n0 q1 M) := by
  unfold fX4_read_80
  refine b_aload_n hO dX4_read_80 0 rfl rfl ?_
  refine b_get hO flX4_14 kLX_1 (v := .ref (ad 3)) rfl dX4_read_81 ?_
  refine b_get hO flX4_45 kLX_3 (v := .int (gI _ 386)) rfl dX4_read_84 ?_
  refine b_sipush hO dX4_read_87 ic_s_259 ?_
  refine b_icmp_eq hO dX4_read_90 (tgt := 112) (by decide) ?_ ?_
  · refine b_iconst hO dX4_read_112 ic_i_1 ?_
    refine b_goto hO dX4_read_113 (tgt := 117) (by decide) ?_
    exact b_zretc hO (Or.inr rfl) dX4_read_117
  · refine b_aload_n hO dX4_read_93 0 rfl rfl ?_
    refine b_get hO flX4_14 kLX_1 (v := .ref (ad 3)) rfl dX4_read_94 ?_
    refine b_bipush hO dX4_read_97 ic_b_6 ?_
    refine b_aload_n hO dX4_read_99 0 rfl rfl ?_
    refine b_get hO flX4_14 kLX_1 (v := .ref (ad 3)) rfl dX4_read_100 ?_
    refine b_get hO flX4_60 kLX_3 (v := .int (gI _ 387)) rfl dX4_read_103 ?_
    refine b_callVI hO mdX8_fail mvX8_fail w741 (ci := 8) rfl rfl (by decide) kLX_3 (As := [.int _, .int _]) (st := []) (ctX8_fail n0 hO.2.2.2.2.2.2.1 _ _ _) (Nat.le_of_ble_eq_true rfl) rfl rfl (Nat.le_of_ble_eq_true rfl) dX4_read_106 (fun z106 => ?_)
    refine b_if_eq hO dX4_read_109 (tgt := 116) (by decide) ?_ ?_
    · refine b_iconst hO dX4_read_116 ic_i_0 ?_
      exact b_zretc hO (Or.inl rfl) dX4_read_117
    · refine b_iconst hO dX4_read_112 ic_i_1 ?_
      refine b_goto hO dX4_read_113 (tgt := 117) (by decide) ?_
      exact b_zretc hO (Or.inr rfl) dX4_read_117
theorem tbX4_read_21 (n0 : Nat) (q1 : Nat) (hq1 : isK LX q1 9) (hO : OKc p (rmL 108) s m args meth c LX D cy ad cX4_read RX4 3 108 (some .boolean)) (k21 : Int32 → Mem → Option (Int32 × Mem)) (hk21 : ∀ (x2 : Int32) (M : Mem), BL p l e (rmL 108) s m args below meth c LX D cy ad 3 (QI LX D cy ad) 21 [(0, .ref (ad 1)), (2, .int x2)] [] M (k21 x2 M)) (x2 : Int32) (M : Mem) : BL p l e (rmL 108) s m args below meth c LX D cy ad 3 (QI LX D cy ad) 21 [(0, .ref (ad 1)), (2, .int x2)] [] M (bX4_read_21 n0 q1 k21 x2 M) := by
  unfold bX4_read_21
  refine b_iload_n hO dX4_read_21 1 rfl rfl ?_
  refine b_bipush hO dX4_read_22 ic_b_80 ?_
  refine b_icmp_ge hO dX4_read_24 (tgt := 80) (by decide) ?_ ?_
  · refine b_sub [0] rfl ?_
    exact tfX4_read_80 n0 q1 hq1 hO _
  · refine b_aload_n hO dX4_read_27 0 rfl rfl ?_
    refine b_get hO flX4_14 kLX_1 (v := .ref (ad 3)) rfl dX4_read_28 ?_
    refine b_get hO flX4_45 kLX_3 (v := .int (gI _ 386)) rfl dX4_read_31 ?_
    refine b_sipush hO dX4_read_34 ic_s_259 ?_
    refine b_icmp_eq hO dX4_read_37 (tgt := 80) (by decide) ?_ ?_
    · refine b_sub [0] rfl ?_
      exact tfX4_read_80 n0 q1 hq1 hO _
    · refine b_aload_n hO dX4_read_40 0 rfl rfl ?_
      refine b_callVI hO mdX4_readStatement mvX4_readStatement w733 (ci := 4) rfl rfl (by decide) kLX_1 (As := []) (st := []) (ctX4_readStatement n0 hO.2.2.2.2.2.2.1 _) (Nat.le_of_ble_eq_true rfl) rfl rfl (Nat.le_of_ble_eq_true rfl) dX4_read_41 (fun z41 => ?_)
      refine b_if_eq hO dX4_read_44 (tgt := 59) (by decide) ?_ ?_
      · refine b_iconst hO dX4_read_59 ic_i_0 ?_
        exact b_zretc hO (Or.inl rfl) dX4_read_60
      · refine b_aload_n hO dX4_read_47 0 rfl rfl ?_
        refine b_get hO flX4_14 kLX_1 (v := .ref (ad 3)) rfl dX4_read_48 ?_
        refine b_bipush hO dX4_read_51 ic_b_59 ?_
        refine b_callVI hO mdX8_skip mvX8_skip w774 (ci := 8) rfl rfl (by decide) kLX_3 (As := [.int _]) (st := []) (ctX8_skip n0 hO.2.2.2.2.2.2.1 _ _) (Nat.le_of_ble_eq_true rfl) rfl rfl (Nat.le_of_ble_eq_true rfl) dX4_read_53 (fun z53 => ?_)
        refine b_if_ne hO dX4_read_56 (tgt := 61) (by decide) ?_ ?_
        · refine b_aload_n hO dX4_read_61 0 rfl rfl ?_
          refine b_getR hO flX4_35 kLX_1 (id := 130) rfl rfl (rk := 9) rfl (by decide) dX4_read_62 (fun hg1 => ?_)
          refine b_dup hO dX4_read_65 rfl ?_
          refine b_get hO flX4_57 hg1 (v := .int (gI _ (128 * (gR z53.2 130) + 0))) rfl dX4_read_66 ?_
          refine b_iconst hO dX4_read_69 ic_i_1 ?_
          refine b_iadd hO dX4_read_70 ?_
          refine b_putI hO flX4_57 hg1 rfl rfl rfl (id := (128 * (gR z53.2 130) + 0)) rfl dX4_read_71 ?_
          refine b_bnd (fun M71 => ?_)
          refine b_iinc hO dX4_read_74 1 rfl ic_i_1 (by decide) (lv' := [(2, .int _), (0, .ref _)]) rfl ?_
          refine b_goto hO dX4_read_77 (tgt := 21) (by decide) ?_
          refine b_sub [1, 0] rfl ?_
          exact hk21 _ _
        · refine b_iconst hO dX4_read_59 ic_i_0 ?_
          exact b_zretc hO (Or.inl rfl) dX4_read_60
theorem lX4_read_21 (n0 : Nat) (q1 : Nat) (hq1 : isK LX q1 9) (hO : OKc p (rmL 108) s m args meth c LX D cy ad cX4_read RX4 3 108 (some .boolean)) : ∀ (w : Nat) (x2 : Int32) (M : Mem), BL p l e (rmL 108) s m args below meth c LX D cy ad 3 (QI LX D cy ad) 21 [(0, .ref (ad 1)), (2, .int x2)] [] M (loopN (bX4_read_21 n0 q1) (fun _ _ => none) w x2 M) := by
  intro w
  induction w with
  | zero =>
    intros
    exact b_none
  | succ w ih =>
    intro x2 M
    exact tbX4_read_21 n0 q1 hq1 hO _ ih x2 M
theorem tfX4_read_21 (n0 : Nat) (q1 : Nat) (hq1 : isK LX q1 9) (hO : OKc p (rmL 108) s m args meth c LX D cy ad cX4_read RX4 3 108 (some .boolean)) (x2 : Int32) (M : Mem) : BL p l e (rmL 108) s m args below meth c LX D cy ad 3 (QI LX D cy ad) 21 [(0, .ref (ad 1)), (2, .int x2)] [] M (fX4_read_21 n0 q1 x2 M) := lX4_read_21 n0 q1 hq1 hO n0 x2 M
theorem tfX4_read (n0 : Nat) (q1 : Nat) (hq1 : isK LX q1 9) (hO : OKc p (rmL 108) s m args meth c LX D cy ad cX4_read RX4 3 108 (some .boolean)) (M : Mem) : BL p l e (rmL 108) s m args below meth c LX D cy ad 3 (QI LX D cy ad) 0 [(0, .ref (ad 1)), (1, .ref (ad q1))] [] M (fX4_read n0 q1 M) := by
  unfold fX4_read
  refine b_aload_n hO dX4_read_0 0 rfl rfl ?_
  refine b_aload_n hO dX4_read_1 1 rfl rfl ?_
  refine b_putR hO flX4_35 kLX_1 rfl (id := 130) rfl hq1 rfl rfl dX4_read_2 ?_
  refine b_bnd (fun M2 => ?_)
  refine b_aload_n hO dX4_read_5 0 rfl rfl ?_
  refine b_getR hO flX4_35 kLX_1 (id := 130) rfl rfl (rk := 9) rfl (by decide) dX4_read_6 (fun hg1 => ?_)
  refine b_callVV hO mdX9_clear mvX9_clear w691 (ci := 9) rfl rfl (by decide) hg1 (As := []) (st := []) (ctX9_clear n0 _ hg1 hO.2.2.2.2.2.2.1 _) (Nat.le_of_ble_eq_true rfl) rfl rfl (Nat.le_of_ble_eq_true rfl) dX4_read_9 (fun z9 => ?_)
  refine b_aload_n hO dX4_read_12 0 rfl rfl ?_
  refine b_get hO flX4_14 kLX_1 (v := .ref (ad 3)) rfl dX4_read_13 ?_
  refine b_callVV hO mdX8_begin mvX8_begin w695 (ci := 8) rfl rfl (by decide) kLX_3 (As := []) (st := []) (ctX8_begin n0 hO.2.2.2.2.2.2.1 _) (Nat.le_of_ble_eq_true rfl) rfl rfl (Nat.le_of_ble_eq_true rfl) dX4_read_16 (fun z16 => ?_)
  refine b_iconst hO dX4_read_19 ic_i_0 ?_
  refine b_istore_n hO dX4_read_20 rfl (by decide) (lv' := [(2, .int _), (0, .ref _), (1, .ref _)]) rfl ?_
  refine b_sub [1, 0] rfl ?_
  exact tfX4_read_21 n0 q1 hq1 hO _ _
theorem ctX4_read (n0 : Nat) (q1 : Nat) (hq1 : isK LX q1 9) (hI : Inj LX ad) (M : Mem) : CT l LX D cy ad yX4_read cX4_read 3 (some .boolean) 108 (QI LX D cy ad) [.ref (ad 1), .ref (ad q1)] M (fX4_read n0 q1 M) :=
  CT.mk LXok hI (by decide) (Nat.le_of_ble_eq_true rfl) (fun hO => tfX4_read n0 q1 hq1 hO M)
end
