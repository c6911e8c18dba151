section
variable {p : Program} {l : Launch} {e : Env} {s : State} {m : MethodId} {args : Array Value} {below : List Frame} {meth : Method} {c : Code} {D : va_G} {cy : Nat → ClassId} {ad : Nat → Nat} {dd : Nat}

/-! X11_refuse -/
def fX11_refuse (n0 : Nat) (x1 : Int32) (M : Mem) : Option (Int32 × Mem) :=
  if x1 < 0 then
    some ((-1 : Int32), M)
  else
    if (6 : Int32) ≤ x1 then
      some ((-1 : Int32), M)
    else
      if oob x1 6 then none else
      if oob x1 6 then none else
      some ((-1 : Int32), (sA M 30 (Int32.toNatClampNeg x1) ((gA M 30 (Int32.toNatClampNeg x1)) + (1 : Int32))))
theorem tfX11_refuse (n0 : Nat) (hO : OKc p (rmL 1) s m args meth c LX D cy ad cX11_refuse RX11 2 1 (some .int)) (x1 : Int32) (M : Mem) : BL p l e (rmL 1) s m args below meth c LX D cy ad 2 (QI LX D cy ad) 0 [(0, .ref (ad 0)), (1, .int x1)] [] M (fX11_refuse n0 x1 M) := by
  unfold fX11_refuse
  refine b_iload_n hO dX11_refuse_0 1 rfl rfl ?_
  refine b_if_lt hO dX11_refuse_1 (tgt := 20) (by decide) ?_ ?_
  · refine b_iconst hO dX11_refuse_20 ic_i_m1 ?_
    exact b_iret hO dX11_refuse_21
  · refine b_iload_n hO dX11_refuse_4 1 rfl rfl ?_
    refine b_bipush hO dX11_refuse_5 ic_b_6 ?_
    refine b_icmp_ge hO dX11_refuse_7 (tgt := 20) (by decide) ?_ ?_
    · refine b_iconst hO dX11_refuse_20 ic_i_m1 ?_
      exact b_iret hO dX11_refuse_21
    · refine b_aload_n hO dX11_refuse_10 0 rfl rfl ?_
      refine b_get hO flX11_85 kLX_0 (v := .ref (ad 30)) rfl dX11_refuse_11 ?_
      refine b_iload_n hO dX11_refuse_14 1 rfl rfl ?_
      refine b_dup2 hO dX11_refuse_15 rfl rfl ?_
      refine b_iald hO kLX_30 (n := 6) rfl dX11_refuse_16 ?_
      refine b_iconst hO dX11_refuse_17 ic_i_1 ?_
      refine b_iadd hO dX11_refuse_18 ?_
      refine b_iast hO kLX_30 (n := 6) rfl dX11_refuse_19 ?_
      refine b_iconst hO dX11_refuse_20 ic_i_m1 ?_
      exact b_iret hO dX11_refuse_21
theorem ctX11_refuse (n0 : Nat) (hI : Inj LX ad) (x1 : Int32) (M : Mem) : CT l LX D cy ad yX11_refuse cX11_refuse 2 (some .int) 1 (QI LX D cy ad) [.ref (ad 0), .int x1] M (fX11_refuse n0 x1 M) :=
  CT.mk LXok hI (by decide) (Nat.le_of_ble_eq_true rfl) (fun hO => tfX11_refuse n0 hO x1 M)
/-! X11_feed -/
def fX11_feed (n0 : Nat) (x1 : Int32) (x2 : Int32) (x3 : Int32) (x4 : Int32) (x5 : Int32) (M : Mem) : Option (Int32 × Mem) :=
  (fX7_hasRoomFor n0 (20 : Int32) M).bind fun z6 =>
  if z6.1 = 0 then
    (fX11_refuse n0 (0 : Int32) z6.2).bind fun z14 =>
    some (z14.1, z14.2)
  else
    (fX7_addNumber n0 x1 z6.2).bind fun z23 =>
    (fX7_addNumber n0 x2 z23).bind fun z31 =>
    (fX7_addNumber n0 x3 z31).bind fun z39 =>
    (fX7_addNumber n0 x4 z39).bind fun z48 =>
    (fX7_addNumber n0 x5 z48).bind fun z57 =>
    some ((gI z57 641), z57)
theorem tfX11_feed (n0 : Nat) (hO : OKc p (rmL 2) s m args meth c LX D cy ad cX11_feed RX11 6 2 (some .int)) (x1 : Int32) (x2 : Int32) (x3 : Int32) (x4 : Int32) (x5 : Int32) (M : Mem) : BL p l e (rmL 2) s m args below meth c LX D cy ad 6 (QI LX D cy ad) 0 [(0, .ref (ad 0)), (1, .int x1), (2, .int x2), (3, .int x3), (4, .int x4), (5, .int x5)] [] M (fX11_feed n0 x1 x2 x3 x4 x5 M) := by
  unfold fX11_feed
  refine b_aload_n hO dX11_feed_0 0 rfl rfl ?_
  refine b_get hO flX11_12 kLX_0 (v := .ref (ad 5)) rfl dX11_feed_1 ?_
  refine b_bipush hO dX11_feed_4 ic_b_20 ?_
  refine b_callVI hO mdX7_hasRoomFor mvX7_hasRoomFor w667 (ci := 7) rfl rfl (by decide) kLX_5 (As := [.int _]) (st := []) (ctX7_hasRoomFor n0 hO.2.2.2.2.2.2.1 _ _) (Nat.le_of_ble_eq_true rfl) rfl rfl (Nat.le_of_ble_eq_true rfl) dX11_feed_6 (fun z6 => ?_)
  refine b_if_ne hO dX11_feed_9 (tgt := 18) (by decide) ?_ ?_
  · refine b_aload_n hO dX11_feed_18 0 rfl rfl ?_
    refine b_get hO flX11_12 kLX_0 (v := .ref (ad 5)) rfl dX11_feed_19 ?_
    refine b_iload_n hO dX11_feed_22 1 rfl rfl ?_
    refine b_callVV hO mdX7_addNumber mvX7_addNumber w675 (ci := 7) rfl rfl (by decide) kLX_5 (As := [.int _]) (st := []) (ctX7_addNumber n0 hO.2.2.2.2.2.2.1 _ _) (Nat.le_of_ble_eq_true rfl) rfl rfl (Nat.le_of_ble_eq_true rfl) dX11_feed_23 (fun z23 => ?_)
    refine b_aload_n hO dX11_feed_26 0 rfl rfl ?_
    refine b_get hO flX11_12 kLX_0 (v := .ref (ad 5)) rfl dX11_feed_27 ?_
    refine b_iload_n hO dX11_feed_30 2 rfl rfl ?_
    refine b_callVV hO mdX7_addNumber mvX7_addNumber w675 (ci := 7) rfl rfl (by decide) kLX_5 (As := [.int _]) (st := []) (ctX7_addNumber n0 hO.2.2.2.2.2.2.1 _ _) (Nat.le_of_ble_eq_true rfl) rfl rfl (Nat.le_of_ble_eq_true rfl) dX11_feed_31 (fun z31 => ?_)
    refine b_aload_n hO dX11_feed_34 0 rfl rfl ?_
    refine b_get hO flX11_12 kLX_0 (v := .ref (ad 5)) rfl dX11_feed_35 ?_
    refine b_iload_n hO dX11_feed_38 3 rfl rfl ?_
    refine b_callVV hO mdX7_addNumber mvX7_addNumber w675 (ci := 7) rfl rfl (by decide) kLX_5 (As := [.int _]) (st := []) (ctX7_addNumber n0 hO.2.2.2.2.2.2.1 _ _) (Nat.le_of_ble_eq_true rfl) rfl rfl (Nat.le_of_ble_eq_true rfl) dX11_feed_39 (fun z39 => ?_)
    refine b_aload_n hO dX11_feed_42 0 rfl rfl ?_
    refine b_get hO flX11_12 kLX_0 (v := .ref (ad 5)) rfl dX11_feed_43 ?_
    refine b_iload hO dX11_feed_46 4 rfl ?_
    refine b_callVV hO mdX7_addNumber mvX7_addNumber w675 (ci := 7) rfl rfl (by decide) kLX_5 (As := [.int _]) (st := []) (ctX7_addNumber n0 hO.2.2.2.2.2.2.1 _ _) (Nat.le_of_ble_eq_true rfl) rfl rfl (Nat.le_of_ble_eq_true rfl) dX11_feed_48 (fun z48 => ?_)
    refine b_aload_n hO dX11_feed_51 0 rfl rfl ?_
    refine b_get hO flX11_12 kLX_0 (v := .ref (ad 5)) rfl dX11_feed_52 ?_
    refine b_iload hO dX11_feed_55 5 rfl ?_
    refine b_callVV hO mdX7_addNumber mvX7_addNumber w675 (ci := 7) rfl rfl (by decide) kLX_5 (As := [.int _]) (st := []) (ctX7_addNumber n0 hO.2.2.2.2.2.2.1 _ _) (Nat.le_of_ble_eq_true rfl) rfl rfl (Nat.le_of_ble_eq_true rfl) dX11_feed_57 (fun z57 => ?_)
    refine b_aload_n hO dX11_feed_60 0 rfl rfl ?_
    refine b_get hO flX11_12 kLX_0 (v := .ref (ad 5)) rfl dX11_feed_61 ?_
    refine b_get hO flX11_116 kLX_5 (v := .int (gI _ 641)) rfl dX11_feed_64 ?_
    exact b_iret hO dX11_feed_67
  · refine b_aload_n hO dX11_feed_12 0 rfl rfl ?_
    refine b_iconst hO dX11_feed_13 ic_i_0 ?_
    refine b_callVI hO mdX11_refuse mvX11_refuse w671 (ci := 11) rfl rfl (by decide) kLX_0 (As := [.int _]) (st := []) (ctX11_refuse n0 hO.2.2.2.2.2.2.1 _ _) (Nat.le_of_ble_eq_true rfl) rfl rfl (Nat.le_of_ble_eq_true rfl) dX11_feed_14 (fun z14 => ?_)
    exact b_iret hO dX11_feed_17
theorem ctX11_feed (n0 : Nat) (hI : Inj LX ad) (x1 : Int32) (x2 : Int32) (x3 : Int32) (x4 : Int32) (x5 : Int32) (M : Mem) : CT l LX D cy ad yX11_feed cX11_feed 6 (some .int) 2 (QI LX D cy ad) [.ref (ad 0), .int x1, .int x2, .int x3, .int x4, .int x5] M (fX11_feed n0 x1 x2 x3 x4 x5 M) :=
  CT.mk LXok hI (by decide) (Nat.le_of_ble_eq_true rfl) (fun hO => tfX11_feed n0 hO x1 x2 x3 x4 x5 M)
/-! X11_end -/
def fX11_end_15 (n0 : Nat) (M : Mem) : Option (Int32 × Mem) :=
  (fX11_refuse n0 (0 : Int32) M).bind fun z17 =>
  some ((0 : Int32), z17.2)
def fX11_end (n0 : Nat) (x1 : Int32) (M : Mem) : Option (Int32 × Mem) :=
  if x1 < 0 then
    fX11_end_15 n0 M
  else
    if x1 ≤ (gI M 641) then
      bnd (sI M 641 x1) fun M28 =>
      some ((1 : Int32), M28)
    else
      fX11_end_15 n0 M
theorem tfX11_end_15 (n0 : Nat) (hO : OKc p (rmL 2) s m args meth c LX D cy ad cX11_end RX11 2 2 (some .boolean)) (M : Mem) : BL p l e (rmL 2) s m args below meth c LX D cy ad 2 (QI LX D cy ad) 15 [(0, .ref (ad 0))] [] M (fX11_end_15 n0 M) := by
  unfold fX11_end_15
  refine b_aload_n hO dX11_end_15 0 rfl rfl ?_
  refine b_iconst hO dX11_end_16 ic_i_0 ?_
  refine b_callVI hO mdX11_refuse mvX11_refuse w671 (ci := 11) rfl rfl (by decide) kLX_0 (As := [.int _]) (st := []) (ctX11_refuse n0 hO.2.2.2.2.2.2.1 _ _) (Nat.le_of_ble_eq_true rfl) rfl rfl (Nat.le_of_ble_eq_true rfl) dX11_end_17 (fun z17 => ?_)
  refine b_pop hO dX11_end_20 rfl ?_
  refine b_iconst hO dX11_end_21 ic_i_0 ?_
  exact b_zretc hO (Or.inl rfl) dX11_end_22
theorem tfX11_end (n0 : Nat) (hO : OKc p (rmL 2) s m args meth c LX D cy ad cX11_end RX11 2 2 (some .boolean)) (x1 : Int32) (M : Mem) : BL p l e (rmL 2) s m args below meth c LX D cy ad 2 (QI LX D cy ad) 0 [(0, .ref (ad 0)), (1, .int x1)] [] M (fX11_end n0 x1 M) := by
  unfold fX11_end
  refine b_iload_n hO dX11_end_0 1 rfl rfl ?_
  refine b_if_lt hO dX11_end_1 (tgt := 15) (by decide) ?_ ?_
  · refine b_sub [0] rfl ?_
    exact tfX11_end_15 n0 hO _
  · refine b_iload_n hO dX11_end_4 1 rfl rfl ?_
    refine b_aload_n hO dX11_end_5 0 rfl rfl ?_
    refine b_get hO flX11_12 kLX_0 (v := .ref (ad 5)) rfl dX11_end_6 ?_
    refine b_get hO flX11_116 kLX_5 (v := .int (gI _ 641)) rfl dX11_end_9 ?_
    refine b_icmp_le hO dX11_end_12 (tgt := 23) (by decide) ?_ ?_
    · refine b_aload_n hO dX11_end_23 0 rfl rfl ?_
      refine b_get hO flX11_12 kLX_0 (v := .ref (ad 5)) rfl dX11_end_24 ?_
      refine b_iload_n hO dX11_end_27 1 rfl rfl ?_
      refine b_putI hO flX11_116 kLX_5 rfl rfl rfl (id := 641) rfl dX11_end_28 ?_
      refine b_bnd (fun M28 => ?_)
      refine b_iconst hO dX11_end_31 ic_i_1 ?_
      exact b_zretc hO (Or.inr rfl) dX11_end_32
    · refine b_sub [0] rfl ?_
      exact tfX11_end_15 n0 hO _
theorem ctX11_end (n0 : Nat) (hI : Inj LX ad) (x1 : Int32) (M : Mem) : CT l LX D cy ad yX11_end cX11_end 2 (some .boolean) 2 (QI LX D cy ad) [.ref (ad 0), .int x1] M (fX11_end n0 x1 M) :=
  CT.mk LXok hI (by decide) (Nat.le_of_ble_eq_true rfl) (fun hO => tfX11_end n0 hO x1 M)
/-! X11_begin -/
def fX11_begin (n0 : Nat) (M : Mem) : Option (Mem) :=
  bnd (sR M 896 (gR M 1)) fun M8 =>
  (fX6_begin n0 (gR M8 1) M8).bind fun z19 =>
  (fX6_doWhatIsDue n0 z19).bind fun z30 =>
  bnd (sI z30.2 2050 (0 : Int32)) fun M39 =>
  some (sI M39 2688 (0 : Int32))
theorem tfX11_begin (n0 : Nat) (hO : OKc p (rmL 7) s m args meth c LX D cy ad cX11_begin RX11 1 7 none) (M : Mem) : BL p l e (rmL 7) s m args below meth c LX D cy ad 1 (QV LX D cy ad) 0 [(0, .ref (ad 0))] [] M (fX11_begin n0 M) := by
  unfold fX11_begin
  refine b_aload_n hO dX11_begin_0 0 rfl rfl ?_
  refine b_get hO flX11_40 kLX_0 (v := .ref (ad 7)) rfl dX11_begin_1 ?_
  refine b_aload_n hO dX11_begin_4 0 rfl rfl ?_
  refine b_getR hO flX11_19 kLX_0 (id := 1) rfl rfl (rk := 9) rfl (by decide) dX11_begin_5 (fun hg1 => ?_)
  refine b_putR hO flX11_312 kLX_7 rfl (id := 896) rfl hg1 rfl rfl dX11_begin_8 ?_
  refine b_bnd (fun M8 => ?_)
  refine b_aload_n hO dX11_begin_11 0 rfl rfl ?_
  refine b_get hO flX11_47 kLX_0 (v := .ref (ad 10)) rfl dX11_begin_12 ?_
  refine b_aload_n hO dX11_begin_15 0 rfl rfl ?_
  refine b_getR hO flX11_19 kLX_0 (id := 1) rfl rfl (rk := 9) rfl (by decide) dX11_begin_16 (fun hg2 => ?_)
  refine b_callVV hO mdX6_begin mvX6_begin w544 (ci := 6) rfl rfl (by decide) kLX_10 (As := [.ref _]) (st := []) (ctX6_begin n0 _ hg2 hO.2.2.2.2.2.2.1 _) (Nat.le_of_ble_eq_true rfl) rfl rfl (Nat.le_of_ble_eq_true rfl) dX11_begin_19 (fun z19 => ?_)
  refine b_aload_n hO dX11_begin_22 0 rfl rfl ?_
  refine b_get hO flX11_47 kLX_0 (v := .ref (ad 10)) rfl dX11_begin_23 ?_
  refine b_aload_n hO dX11_begin_26 0 rfl rfl ?_
  refine b_get hO flX11_40 kLX_0 (v := .ref (ad 7)) rfl dX11_begin_27 ?_
  refine b_callVI hO mdX6_doWhatIsDue mvX6_doWhatIsDue w552 (ci := 6) rfl rfl (by decide) kLX_10 (As := [.ref _]) (st := []) (ctX6_doWhatIsDue n0 hO.2.2.2.2.2.2.1 _) (Nat.le_of_ble_eq_true rfl) rfl rfl (Nat.le_of_ble_eq_true rfl) dX11_begin_30 (fun z30 => ?_)
  refine b_pop hO dX11_begin_33 rfl ?_
  refine b_aload_n hO dX11_begin_34 0 rfl rfl ?_
  refine b_get hO flX11_54 kLX_0 (v := .ref (ad 16)) rfl dX11_begin_35 ?_
  refine b_iconst hO dX11_begin_38 ic_i_0 ?_
  refine b_putI hO flX11_164 kLX_16 rfl rfl rfl (id := 2050) rfl dX11_begin_39 ?_
  refine b_bnd (fun M39 => ?_)
  refine b_aload_n hO dX11_begin_42 0 rfl rfl ?_
  refine b_get hO flX11_68 kLX_0 (v := .ref (ad 21)) rfl dX11_begin_43 ?_
  refine b_iconst hO dX11_begin_46 ic_i_0 ?_
  refine b_putI hO flX11_161 kLX_21 rfl rfl rfl (id := 2688) rfl dX11_begin_47 ?_
  exact b_vret hO dX11_begin_50
theorem ctX11_begin (n0 : Nat) (hI : Inj LX ad) (M : Mem) : CT l LX D cy ad yX11_begin cX11_begin 1 none 7 (QV LX D cy ad) [.ref (ad 0)] M (fX11_begin n0 M) :=
  CT.mk LXok hI (by decide) (Nat.le_of_ble_eq_true rfl) (fun hO => tfX11_begin n0 hO M)
/-! X11_town -/
def fX11_town (n0 : Nat) (M : Mem) : Option (Int32 × Mem) :=
  (fX4_read n0 (gR M 2) M).bind fun z8 =>
  bnd (sI z8.2 641 (0 : Int32)) fun M17 =>
  bnd (sI M17 15 (gI M17 391)) fun M31 =>
  bnd (sI M31 16 (gI M31 392)) fun M45 =>
  if z8.1 = 0 then
    (fX11_refuse n0 (1 : Int32) M45).bind fun z54 =>
    some (z54.1, z54.2)
  else
    bnd (sR M45 1 (gR M45 2)) fun M68 =>
    bnd (sR M68 2 (gR M45 1)) fun M73 =>
    (fX11_begin n0 M73).bind fun z77 =>
    some ((gI z77 (128 * (gR z77 1) + 0)), z77)
theorem tfX11_town (n0 : Nat) (hO : OKc p (rmL 109) s m args meth c LX D cy ad cX11_town RX11 3 109 (some .int)) (M : Mem) : BL p l e (rmL 109) s m args below meth c LX D cy ad 3 (QI LX D cy ad) 0 [(0, .ref (ad 0))] [] M (fX11_town n0 M) := by
  unfold fX11_town
  refine b_aload_n hO dX11_town_0 0 rfl rfl ?_
  refine b_get hO flX11_31 kLX_0 (v := .ref (ad 1)) rfl dX11_town_1 ?_
  refine b_aload_n hO dX11_town_4 0 rfl rfl ?_
  refine b_getR hO flX11_23 kLX_0 (id := 2) rfl rfl (rk := 9) rfl (by decide) dX11_town_5 (fun hg1 => ?_)
  refine b_callVI hO mdX4_read mvX4_read w687 (ci := 4) rfl rfl (by decide) kLX_1 (As := [.ref _]) (st := []) (ctX4_read n0 _ hg1 hO.2.2.2.2.2.2.1 _) (Nat.le_of_ble_eq_true rfl) rfl rfl (Nat.le_of_ble_eq_true rfl) dX11_town_8 (fun z8 => ?_)
  refine b_istore_n hO dX11_town_11 rfl (by decide) (lv' := [(1, .int _), (0, .ref _)]) rfl ?_
  refine b_aload_n hO dX11_town_12 1 rfl rfl ?_
  refine b_get hO flX11_12 kLX_0 (v := .ref (ad 5)) rfl dX11_town_13 ?_
  refine b_iconst hO dX11_town_16 ic_i_0 ?_
  refine b_putI hO flX11_116 kLX_5 rfl rfl rfl (id := 641) rfl dX11_town_17 ?_
  refine b_bnd (fun M17 => ?_)
  refine b_aload_n hO dX11_town_20 1 rfl rfl ?_
  refine b_aload_n hO dX11_town_21 1 rfl rfl ?_
  refine b_get hO flX11_31 kLX_0 (v := .ref (ad 1)) rfl dX11_town_22 ?_
  refine b_get hO flX11_123 kLX_1 (v := .ref (ad 3)) rfl dX11_town_25 ?_
  refine b_get hO flX11_127 kLX_3 (v := .int (gI _ 391)) rfl dX11_town_28 ?_
  refine b_putI hO flX11_92 kLX_0 rfl rfl rfl (id := 15) rfl dX11_town_31 ?_
  refine b_bnd (fun M31 => ?_)
  refine b_aload_n hO dX11_town_34 1 rfl rfl ?_
  refine b_aload_n hO dX11_town_35 1 rfl rfl ?_
  refine b_get hO flX11_31 kLX_0 (v := .ref (ad 1)) rfl dX11_town_36 ?_
  refine b_get hO flX11_123 kLX_1 (v := .ref (ad 3)) rfl dX11_town_39 ?_
  refine b_get hO flX11_132 kLX_3 (v := .int (gI _ 392)) rfl dX11_town_42 ?_
  refine b_putI hO flX11_95 kLX_0 rfl rfl rfl (id := 16) rfl dX11_town_45 ?_
  refine b_bnd (fun M45 => ?_)
  refine b_iload_n hO dX11_town_48 0 rfl rfl ?_
  refine b_if_ne hO dX11_town_49 (tgt := 58) (by decide) ?_ ?_
  · refine b_aload_n hO dX11_town_58 1 rfl rfl ?_
    refine b_getR hO flX11_19 kLX_0 (id := 1) rfl rfl (rk := 9) rfl (by decide) dX11_town_59 (fun hg2 => ?_)
    refine b_astore_n hO dX11_town_62 rfl (by decide) (lv' := [(2, .ref _), (1, .int _), (0, .ref _)]) rfl ?_
    refine b_aload_n hO dX11_town_63 2 rfl rfl ?_
    refine b_aload_n hO dX11_town_64 2 rfl rfl ?_
    refine b_getR hO flX11_23 kLX_0 (id := 2) rfl rfl (rk := 9) rfl (by decide) dX11_town_65 (fun hg3 => ?_)
    refine b_putR hO flX11_19 kLX_0 rfl (id := 1) rfl hg3 rfl rfl dX11_town_68 ?_
    refine b_bnd (fun M68 => ?_)
    refine b_aload_n hO dX11_town_71 2 rfl rfl ?_
    refine b_aload_n hO dX11_town_72 0 rfl rfl ?_
    refine b_putR hO flX11_23 kLX_0 rfl (id := 2) rfl hg2 rfl rfl dX11_town_73 ?_
    refine b_bnd (fun M73 => ?_)
    refine b_aload_n hO dX11_town_76 2 rfl rfl ?_
    refine b_callVV hO mdX11_begin mvX11_begin w540 (ci := 11) rfl rfl (by decide) kLX_0 (As := []) (st := []) (ctX11_begin n0 hO.2.2.2.2.2.2.1 _) (Nat.le_of_ble_eq_true rfl) rfl rfl (Nat.le_of_ble_eq_true rfl) dX11_town_77 (fun z77 => ?_)
    refine b_aload_n hO dX11_town_80 2 rfl rfl ?_
    refine b_getR hO flX11_19 kLX_0 (id := 1) rfl rfl (rk := 9) rfl (by decide) dX11_town_81 (fun hg4 => ?_)
    refine b_get hO flX11_133 hg4 (v := .int (gI _ (128 * (gR z77 1) + 0))) rfl dX11_town_84 ?_
    exact b_iret hO dX11_town_87
  · refine b_aload_n hO dX11_town_52 1 rfl rfl ?_
    refine b_iconst hO dX11_town_53 ic_i_1 ?_
    refine b_callVI hO mdX11_refuse mvX11_refuse w671 (ci := 11) rfl rfl (by decide) kLX_0 (As := [.int _]) (st := []) (ctX11_refuse n0 hO.2.2.2.2.2.2.1 _ _) (Nat.le_of_ble_eq_true rfl) rfl rfl (Nat.le_of_ble_eq_true rfl) dX11_town_54 (fun z54 => ?_)
    exact b_iret hO dX11_town_57
theorem ctX11_town (n0 : Nat) (hI : Inj LX ad) (M : Mem) : CT l LX D cy ad yX11_town cX11_town 3 (some .int) 109 (QI LX D cy ad) [.ref (ad 0)] M (fX11_town n0 M) :=
  CT.mk LXok hI (by decide) (Nat.le_of_ble_eq_true rfl) (fun hO => tfX11_town n0 hO M)
/-! X11_fault -/
def fX11_fault (n0 : Nat) (x1 : Int32) (M : Mem) : Option (Int32 × Mem) :=
  if x1 = 0 then
    some ((gI M 15), M)
  else
  if x1 = 1 then
    some ((gI M 16), M)
  else
  some ((-1 : Int32), M)
theorem tfX11_fault (n0 : Nat) (hO : OKc p (rmL 1) s m args meth c LX D cy ad cX11_fault RX11 2 1 (some .int)) (x1 : Int32) (M : Mem) : BL p l e (rmL 1) s m args below meth c LX D cy ad 2 (QI LX D cy ad) 0 [(0, .ref (ad 0)), (1, .int x1)] [] M (fX11_fault n0 x1 M) := by
  unfold fX11_fault
  refine b_iload_n hO dX11_fault_0 1 rfl rfl ?_
  refine b_lookIn hO dX11_fault_1 (v := 0) (z := 0) (tgt := 28) (by decide) (by decide) rfl (by decide) ?_ (fun hn0 => ?_)
  · refine b_aload_n hO dX11_fault_28 0 rfl rfl ?_
    refine b_get hO flX11_92 kLX_0 (v := .int (gI _ 15)) rfl dX11_fault_29 ?_
    exact b_iret hO dX11_fault_32
  refine b_lookIn hO dX11_fault_1 (v := 1) (z := 1) (tgt := 33) (by decide) (by decide) rfl (by decide) ?_ (fun hn1 => ?_)
  · refine b_aload_n hO dX11_fault_33 0 rfl rfl ?_
    refine b_get hO flX11_95 kLX_0 (v := .int (gI _ 16)) rfl dX11_fault_34 ?_
    exact b_iret hO dX11_fault_37
  refine b_lookOut hO dX11_fault_1 (tgt := 38) (by decide) (by rw [lv_osw hn0 (by decide)]; rw [lv_osw hn1 (by decide)]; rfl) (by decide) ?_
  refine b_iconst hO dX11_fault_38 ic_i_m1 ?_
  exact b_iret hO dX11_fault_39
theorem ctX11_fault (n0 : Nat) (hI : Inj LX ad) (x1 : Int32) (M : Mem) : CT l LX D cy ad yX11_fault cX11_fault 2 (some .int) 1 (QI LX D cy ad) [.ref (ad 0), .int x1] M (fX11_fault n0 x1 M) :=
  CT.mk LXok hI (by decide) (Nat.le_of_ble_eq_true rfl) (fun hO => tfX11_fault n0 hO x1 M)
/-! X11_has -/
def fX11_has (n0 : Nat) (x1 : Int32) (M : Mem) : Option (Int32 × Mem) :=
  if x1 = 0 then
    some ((gI M (128 * (gR M 1) + 1)), M)
  else
  if x1 = 1 then
    some ((gI M (128 * (gR M 1) + 5)), M)
  else
  if x1 = 2 then
    some ((gI M (128 * (gR M 1) + 8)), M)
  else
  if x1 = 3 then
    some ((gI M (128 * (gR M 1) + 12)), M)
  else
  if x1 = 4 then
    some ((gI M 1281), M)
  else
  if x1 = 5 then
    (fX6_countDone n0 M).bind fun z104 =>
    some (z104.1, z104.2)
  else
  if x1 = 6 then
    (fX6_countEmpty n0 M).bind fun z112 =>
    some (z112.1, z112.2)
  else
  if x1 = 7 then
    some ((gI M 1285), M)
  else
  if x1 = 8 then
    some ((gI M 2688), M)
  else
  if x1 = 9 then
    some ((gI M 2050), M)
  else
  if x1 = 10 then
    some ((gI M 17), M)
  else
  some ((-1 : Int32), M)
theorem tfX11_has (n0 : Nat) (hO : OKc p (rmL 2) s m args meth c LX D cy ad cX11_has RX11 2 2 (some .int)) (x1 : Int32) (M : Mem) : BL p l e (rmL 2) s m args below meth c LX D cy ad 2 (QI LX D cy ad) 0 [(0, .ref (ad 0)), (1, .int x1)] [] M (fX11_has n0 x1 M) := by
  unfold fX11_has
  refine b_iload_n hO dX11_has_0 1 rfl rfl ?_
  refine b_tabIn hO dX11_has_1 (v := 0) (z := 0) (tgt := 60) (by decide) (by decide) (by decide) rfl (by decide) ?_ (fun hn0 => ?_)
  · refine b_aload_n hO dX11_has_60 0 rfl rfl ?_
    refine b_getR hO flX11_19 kLX_0 (id := 1) rfl rfl (rk := 9) rfl (by decide) dX11_has_61 (fun hg1 => ?_)
    refine b_get hO flX11_136 hg1 (v := .int (gI _ (128 * (gR M 1) + 1))) rfl dX11_has_64 ?_
    exact b_iret hO dX11_has_67
  refine b_tabIn hO dX11_has_1 (v := 1) (z := 1) (tgt := 68) (by decide) (by decide) (by decide) rfl (by decide) ?_ (fun hn1 => ?_)
  · refine b_aload_n hO dX11_has_68 0 rfl rfl ?_
    refine b_getR hO flX11_19 kLX_0 (id := 1) rfl rfl (rk := 9) rfl (by decide) dX11_has_69 (fun hg2 => ?_)
    refine b_get hO flX11_139 hg2 (v := .int (gI _ (128 * (gR M 1) + 5))) rfl dX11_has_72 ?_
    exact b_iret hO dX11_has_75
  refine b_tabIn hO dX11_has_1 (v := 2) (z := 2) (tgt := 76) (by decide) (by decide) (by decide) rfl (by decide) ?_ (fun hn2 => ?_)
  · refine b_aload_n hO dX11_has_76 0 rfl rfl ?_
    refine b_getR hO flX11_19 kLX_0 (id := 1) rfl rfl (rk := 9) rfl (by decide) dX11_has_77 (fun hg3 => ?_)
    refine b_get hO flX11_142 hg3 (v := .int (gI _ (128 * (gR M 1) + 8))) rfl dX11_has_80 ?_
    exact b_iret hO dX11_has_83
  refine b_tabIn hO dX11_has_1 (v := 3) (z := 3) (tgt := 84) (by decide) (by decide) (by decide) rfl (by decide) ?_ (fun hn3 => ?_)
  · refine b_aload_n hO dX11_has_84 0 rfl rfl ?_
    refine b_getR hO flX11_19 kLX_0 (id := 1) rfl rfl (rk := 9) rfl (by decide) dX11_has_85 (fun hg4 => ?_)
    refine b_get hO flX11_145 hg4 (v := .int (gI _ (128 * (gR M 1) + 12))) rfl dX11_has_88 ?_
    exact b_iret hO dX11_has_91
  refine b_tabIn hO dX11_has_1 (v := 4) (z := 4) (tgt := 92) (by decide) (by decide) (by decide) rfl (by decide) ?_ (fun hn4 => ?_)
  · refine b_aload_n hO dX11_has_92 0 rfl rfl ?_
    refine b_get hO flX11_47 kLX_0 (v := .ref (ad 10)) rfl dX11_has_93 ?_
    refine b_get hO flX11_148 kLX_10 (v := .int (gI _ 1281)) rfl dX11_has_96 ?_
    exact b_iret hO dX11_has_99
  refine b_tabIn hO dX11_has_1 (v := 5) (z := 5) (tgt := 100) (by decide) (by decide) (by decide) rfl (by decide) ?_ (fun hn5 => ?_)
  · refine b_aload_n hO dX11_has_100 0 rfl rfl ?_
    refine b_get hO flX11_47 kLX_0 (v := .ref (ad 10)) rfl dX11_has_101 ?_
    refine b_callVI hO mdX6_countDone mvX6_countDone w912 (ci := 6) rfl rfl (by decide) kLX_10 (As := []) (st := []) (ctX6_countDone n0 hO.2.2.2.2.2.2.1 _) (Nat.le_of_ble_eq_true rfl) rfl rfl (Nat.le_of_ble_eq_true rfl) dX11_has_104 (fun z104 => ?_)
    exact b_iret hO dX11_has_107
  refine b_tabIn hO dX11_has_1 (v := 6) (z := 6) (tgt := 108) (by decide) (by decide) (by decide) rfl (by decide) ?_ (fun hn6 => ?_)
  · refine b_aload_n hO dX11_has_108 0 rfl rfl ?_
    refine b_get hO flX11_47 kLX_0 (v := .ref (ad 10)) rfl dX11_has_109 ?_
    refine b_callVI hO mdX6_countEmpty mvX6_countEmpty w916 (ci := 6) rfl rfl (by decide) kLX_10 (As := []) (st := []) (ctX6_countEmpty n0 hO.2.2.2.2.2.2.1 _) (Nat.le_of_ble_eq_true rfl) rfl rfl (Nat.le_of_ble_eq_true rfl) dX11_has_112 (fun z112 => ?_)
    exact b_iret hO dX11_has_115
  refine b_tabIn hO dX11_has_1 (v := 7) (z := 7) (tgt := 116) (by decide) (by decide) (by decide) rfl (by decide) ?_ (fun hn7 => ?_)
  · refine b_aload_n hO dX11_has_116 0 rfl rfl ?_
    refine b_get hO flX11_47 kLX_0 (v := .ref (ad 10)) rfl dX11_has_117 ?_
    refine b_get hO flX11_158 kLX_10 (v := .int (gI _ 1285)) rfl dX11_has_120 ?_
    exact b_iret hO dX11_has_123
  refine b_tabIn hO dX11_has_1 (v := 8) (z := 8) (tgt := 124) (by decide) (by decide) (by decide) rfl (by decide) ?_ (fun hn8 => ?_)
  · refine b_aload_n hO dX11_has_124 0 rfl rfl ?_
    refine b_get hO flX11_68 kLX_0 (v := .ref (ad 21)) rfl dX11_has_125 ?_
    refine b_get hO flX11_161 kLX_21 (v := .int (gI _ 2688)) rfl dX11_has_128 ?_
    exact b_iret hO dX11_has_131
  refine b_tabIn hO dX11_has_1 (v := 9) (z := 9) (tgt := 132) (by decide) (by decide) (by decide) rfl (by decide) ?_ (fun hn9 => ?_)
  · refine b_aload_n hO dX11_has_132 0 rfl rfl ?_
    refine b_get hO flX11_54 kLX_0 (v := .ref (ad 16)) rfl dX11_has_133 ?_
    refine b_get hO flX11_164 kLX_16 (v := .int (gI _ 2050)) rfl dX11_has_136 ?_
    exact b_iret hO dX11_has_139
  refine b_tabIn hO dX11_has_1 (v := 10) (z := 10) (tgt := 140) (by decide) (by decide) (by decide) rfl (by decide) ?_ (fun hn10 => ?_)
  · refine b_aload_n hO dX11_has_140 0 rfl rfl ?_
    refine b_get hO flX11_98 kLX_0 (v := .int (gI _ 17)) rfl dX11_has_141 ?_
    exact b_iret hO dX11_has_144
  refine b_tabOut hO dX11_has_1 (tgt := 145) (by omega) (by decide) ?_
  refine b_iconst hO dX11_has_145 ic_i_m1 ?_
  exact b_iret hO dX11_has_146
theorem ctX11_has (n0 : Nat) (hI : Inj LX ad) (x1 : Int32) (M : Mem) : CT l LX D cy ad yX11_has cX11_has 2 (some .int) 2 (QI LX D cy ad) [.ref (ad 0), .int x1] M (fX11_has n0 x1 M) :=
  CT.mk LXok hI (by decide) (Nat.le_of_ble_eq_true rfl) (fun hO => tfX11_has n0 hO x1 M)
/-! X11_letter -/
def fX11_letter (n0 : Nat) (x1 : Int32) (x2 : Int32) (x3 : Int32) (M : Mem) : Option (Int32 × Mem) :=
  if x3 < 0 then
    some ((-1 : Int32), M)
  else
    if x3 < (6 : Int32) then
      if x1 = 0 then
        (fX9_isThing n0 (gR M 1) x2 M).bind fun z45 =>
        if z45.1 = 0 then
          some ((-1 : Int32), z45.2)
        else
          if oob x2 6 then none else
          (fX8_letterOf n0 (gA z45.2 ((gR z45.2 1) + 1) (Int32.toNatClampNeg x2)) x3 z45.2).bind fun z61 =>
          some (z61.1, z61.2)
      else
      if x1 = 1 then
        (fX9_isCorner n0 (gR M 1) x2 M).bind fun z74 =>
        if z74.1 = 0 then
          some ((-1 : Int32), z74.2)
        else
          if oob x2 5 then none else
          (fX8_letterOf n0 (gA z74.2 ((gR z74.2 1) + 4) (Int32.toNatClampNeg x2)) x3 z74.2).bind fun z90 =>
          some (z90.1, z90.2)
      else
      if x1 = 2 then
        (fX9_isDoing n0 (gR M 1) x2 M).bind fun z103 =>
        if z103.1 = 0 then
          some ((-1 : Int32), z103.2)
        else
          if oob x2 6 then none else
          (fX8_letterOf n0 (gA z103.2 ((gR z103.2 1) + 9) (Int32.toNatClampNeg x2)) x3 z103.2).bind fun z119 =>
          some (z119.1, z119.2)
      else
      some ((-1 : Int32), M)
    else
      some ((-1 : Int32), M)
theorem tfX11_letter (n0 : Nat) (hO : OKc p (rmL 2) s m args meth c LX D cy ad cX11_letter RX11 4 2 (some .int)) (x1 : Int32) (x2 : Int32) (x3 : Int32) (M : Mem) : BL p l e (rmL 2) s m args below meth c LX D cy ad 4 (QI LX D cy ad) 0 [(0, .ref (ad 0)), (1, .int x1), (2, .int x2), (3, .int x3)] [] M (fX11_letter n0 x1 x2 x3 M) := by
  unfold fX11_letter
  refine b_iload_n hO dX11_letter_0 3 rfl rfl ?_
  refine b_if_lt hO dX11_letter_1 (tgt := 10) (by decide) ?_ ?_
  · refine b_iconst hO dX11_letter_10 ic_i_m1 ?_
    exact b_iret hO dX11_letter_11
  · refine b_iload_n hO dX11_letter_4 3 rfl rfl ?_
    refine b_bipush hO dX11_letter_5 ic_b_6 ?_
    refine b_icmp_lt hO dX11_letter_7 (tgt := 12) (by decide) ?_ ?_
    · refine b_iload_n hO dX11_letter_12 1 rfl rfl ?_
      refine b_tabIn hO dX11_letter_13 (v := 0) (z := 0) (tgt := 40) (by decide) (by decide) (by decide) rfl (by decide) ?_ (fun hn0 => ?_)
      · refine b_aload_n hO dX11_letter_40 0 rfl rfl ?_
        refine b_getR hO flX11_19 kLX_0 (id := 1) rfl rfl (rk := 9) rfl (by decide) dX11_letter_41 (fun hg1 => ?_)
        refine b_iload_n hO dX11_letter_44 2 rfl rfl ?_
        refine b_callVI hO mdX9_isThing mvX9_isThing w924 (ci := 9) rfl rfl (by decide) hg1 (As := [.int _]) (st := []) (ctX9_isThing n0 _ hg1 hO.2.2.2.2.2.2.1 _ _) (Nat.le_of_ble_eq_true rfl) rfl rfl (Nat.le_of_ble_eq_true rfl) dX11_letter_45 (fun z45 => ?_)
        refine b_if_eq hO dX11_letter_48 (tgt := 67) (by decide) ?_ ?_
        · refine b_iconst hO dX11_letter_67 ic_i_m1 ?_
          exact b_iret hO dX11_letter_68
        · refine b_aload_n hO dX11_letter_51 0 rfl rfl ?_
          refine b_getR hO flX11_19 kLX_0 (id := 1) rfl rfl (rk := 9) rfl (by decide) dX11_letter_52 (fun hg2 => ?_)
          refine b_get hO flX11_168 hg2 (v := .ref (ad ((gR z45.2 1) + 1))) rfl dX11_letter_55 ?_
          refine b_iload_n hO dX11_letter_58 2 rfl rfl ?_
          refine b_iald hO (kt_9_1 hg2) (n := 6) (lt_9_1 hg2) dX11_letter_59 ?_
          refine b_iload_n hO dX11_letter_60 3 rfl rfl ?_
          refine b_callSI hO mdX8_letterOf w926 w925 (As := [.int _, .int _]) (st := []) (ctX8_letterOf n0 hO.2.2.2.2.2.2.1 _ _ _) (Nat.le_of_ble_eq_true rfl) rfl rfl (Nat.le_of_ble_eq_true rfl) dX11_letter_61 (fun z61 => ?_)
          refine b_goto hO dX11_letter_64 (tgt := 68) (by decide) ?_
          exact b_iret hO dX11_letter_68
      refine b_tabIn hO dX11_letter_13 (v := 1) (z := 1) (tgt := 69) (by decide) (by decide) (by decide) rfl (by decide) ?_ (fun hn1 => ?_)
      · refine b_aload_n hO dX11_letter_69 0 rfl rfl ?_
        refine b_getR hO flX11_19 kLX_0 (id := 1) rfl rfl (rk := 9) rfl (by decide) dX11_letter_70 (fun hg3 => ?_)
        refine b_iload_n hO dX11_letter_73 2 rfl rfl ?_
        refine b_callVI hO mdX9_isCorner mvX9_isCorner w928 (ci := 9) rfl rfl (by decide) hg3 (As := [.int _]) (st := []) (ctX9_isCorner n0 _ hg3 hO.2.2.2.2.2.2.1 _ _) (Nat.le_of_ble_eq_true rfl) rfl rfl (Nat.le_of_ble_eq_true rfl) dX11_letter_74 (fun z74 => ?_)
        refine b_if_eq hO dX11_letter_77 (tgt := 96) (by decide) ?_ ?_
        · refine b_iconst hO dX11_letter_96 ic_i_m1 ?_
          exact b_iret hO dX11_letter_97
        · refine b_aload_n hO dX11_letter_80 0 rfl rfl ?_
          refine b_getR hO flX11_19 kLX_0 (id := 1) rfl rfl (rk := 9) rfl (by decide) dX11_letter_81 (fun hg4 => ?_)
          refine b_get hO flX11_178 hg4 (v := .ref (ad ((gR z74.2 1) + 4))) rfl dX11_letter_84 ?_
          refine b_iload_n hO dX11_letter_87 2 rfl rfl ?_
          refine b_iald hO (kt_9_4 hg4) (n := 5) (lt_9_4 hg4) dX11_letter_88 ?_
          refine b_iload_n hO dX11_letter_89 3 rfl rfl ?_
          refine b_callSI hO mdX8_letterOf w926 w925 (As := [.int _, .int _]) (st := []) (ctX8_letterOf n0 hO.2.2.2.2.2.2.1 _ _ _) (Nat.le_of_ble_eq_true rfl) rfl rfl (Nat.le_of_ble_eq_true rfl) dX11_letter_90 (fun z90 => ?_)
          refine b_goto hO dX11_letter_93 (tgt := 97) (by decide) ?_
          exact b_iret hO dX11_letter_97
      refine b_tabIn hO dX11_letter_13 (v := 2) (z := 2) (tgt := 98) (by decide) (by decide) (by decide) rfl (by decide) ?_ (fun hn2 => ?_)
      · refine b_aload_n hO dX11_letter_98 0 rfl rfl ?_
        refine b_getR hO flX11_19 kLX_0 (id := 1) rfl rfl (rk := 9) rfl (by decide) dX11_letter_99 (fun hg5 => ?_)
        refine b_iload_n hO dX11_letter_102 2 rfl rfl ?_
        refine b_callVI hO mdX9_isDoing mvX9_isDoing w932 (ci := 9) rfl rfl (by decide) hg5 (As := [.int _]) (st := []) (ctX9_isDoing n0 _ hg5 hO.2.2.2.2.2.2.1 _ _) (Nat.le_of_ble_eq_true rfl) rfl rfl (Nat.le_of_ble_eq_true rfl) dX11_letter_103 (fun z103 => ?_)
        refine b_if_eq hO dX11_letter_106 (tgt := 125) (by decide) ?_ ?_
        · refine b_iconst hO dX11_letter_125 ic_i_m1 ?_
          exact b_iret hO dX11_letter_126
        · refine b_aload_n hO dX11_letter_109 0 rfl rfl ?_
          refine b_getR hO flX11_19 kLX_0 (id := 1) rfl rfl (rk := 9) rfl (by decide) dX11_letter_110 (fun hg6 => ?_)
          refine b_get hO flX11_184 hg6 (v := .ref (ad ((gR z103.2 1) + 9))) rfl dX11_letter_113 ?_
          refine b_iload_n hO dX11_letter_116 2 rfl rfl ?_
          refine b_iald hO (kt_9_9 hg6) (n := 6) (lt_9_9 hg6) dX11_letter_117 ?_
          refine b_iload_n hO dX11_letter_118 3 rfl rfl ?_
          refine b_callSI hO mdX8_letterOf w926 w925 (As := [.int _, .int _]) (st := []) (ctX8_letterOf n0 hO.2.2.2.2.2.2.1 _ _ _) (Nat.le_of_ble_eq_true rfl) rfl rfl (Nat.le_of_ble_eq_true rfl) dX11_letter_119 (fun z119 => ?_)
          refine b_goto hO dX11_letter_122 (tgt := 126) (by decide) ?_
          exact b_iret hO dX11_letter_126
      refine b_tabOut hO dX11_letter_13 (tgt := 127) (by omega) (by decide) ?_
      refine b_iconst hO dX11_letter_127 ic_i_m1 ?_
      exact b_iret hO dX11_letter_128
    · refine b_iconst hO dX11_letter_10 ic_i_m1 ?_
      exact b_iret hO dX11_letter_11
theorem ctX11_letter (n0 : Nat) (hI : Inj LX ad) (x1 : Int32) (x2 : Int32) (x3 : Int32) (M : Mem) : CT l LX D cy ad yX11_letter cX11_letter 4 (some .int) 2 (QI LX D cy ad) [.ref (ad 0), .int x1, .int x2, .int x3] M (fX11_letter n0 x1 x2 x3 M) :=
  CT.mk LXok hI (by decide) (Nat.le_of_ble_eq_true rfl) (fun hO => tfX11_letter n0 hO x1 x2 x3 M)
/-! X11_thing -/
def fX11_thing (n0 : Nat) (x1 : Int32) (x2 : Int32) (M : Mem) : Option (Int32 × Mem) :=
  (fX9_isThing n0 (gR M 1) x1 M).bind fun z5 =>
  if z5.1 = 0 then
    some ((-1 : Int32), z5.2)
  else
    if x2 = 0 then
      if oob x1 6 then none else
      some ((gA z5.2 ((gR z5.2 1) + 2) (Int32.toNatClampNeg x1)), z5.2)
    else
    if x2 = 1 then
      if oob x1 6 then none else
      some ((gA z5.2 ((gR z5.2 1) + 3) (Int32.toNatClampNeg x1)), z5.2)
    else
    some ((-1 : Int32), z5.2)
theorem tfX11_thing (n0 : Nat) (hO : OKc p (rmL 2) s m args meth c LX D cy ad cX11_thing RX11 3 2 (some .int)) (x1 : Int32) (x2 : Int32) (M : Mem) : BL p l e (rmL 2) s m args below meth c LX D cy ad 3 (QI LX D cy ad) 0 [(0, .ref (ad 0)), (1, .int x1), (2, .int x2)] [] M (fX11_thing n0 x1 x2 M) := by
  unfold fX11_thing
  refine b_aload_n hO dX11_thing_0 0 rfl rfl ?_
  refine b_getR hO flX11_19 kLX_0 (id := 1) rfl rfl (rk := 9) rfl (by decide) dX11_thing_1 (fun hg1 => ?_)
  refine b_iload_n hO dX11_thing_4 1 rfl rfl ?_
  refine b_callVI hO mdX9_isThing mvX9_isThing w924 (ci := 9) rfl rfl (by decide) hg1 (As := [.int _]) (st := []) (ctX9_isThing n0 _ hg1 hO.2.2.2.2.2.2.1 _ _) (Nat.le_of_ble_eq_true rfl) rfl rfl (Nat.le_of_ble_eq_true rfl) dX11_thing_5 (fun z5 => ?_)
  refine b_if_ne hO dX11_thing_8 (tgt := 13) (by decide) ?_ ?_
  · refine b_iload_n hO dX11_thing_13 2 rfl rfl ?_
    refine b_lookIn hO dX11_thing_14 (v := 0) (z := 0) (tgt := 40) (by decide) (by decide) rfl (by decide) ?_ (fun hn0 => ?_)
    · refine b_aload_n hO dX11_thing_40 0 rfl rfl ?_
      refine b_getR hO flX11_19 kLX_0 (id := 1) rfl rfl (rk := 9) rfl (by decide) dX11_thing_41 (fun hg2 => ?_)
      refine b_get hO flX11_187 hg2 (v := .ref (ad ((gR z5.2 1) + 2))) rfl dX11_thing_44 ?_
      refine b_iload_n hO dX11_thing_47 1 rfl rfl ?_
      refine b_iald hO (kt_9_2 hg2) (n := 6) (lt_9_2 hg2) dX11_thing_48 ?_
      exact b_iret hO dX11_thing_49
    refine b_lookIn hO dX11_thing_14 (v := 1) (z := 1) (tgt := 50) (by decide) (by decide) rfl (by decide) ?_ (fun hn1 => ?_)
    · refine b_aload_n hO dX11_thing_50 0 rfl rfl ?_
      refine b_getR hO flX11_19 kLX_0 (id := 1) rfl rfl (rk := 9) rfl (by decide) dX11_thing_51 (fun hg3 => ?_)
      refine b_get hO flX11_190 hg3 (v := .ref (ad ((gR z5.2 1) + 3))) rfl dX11_thing_54 ?_
      refine b_iload_n hO dX11_thing_57 1 rfl rfl ?_
      refine b_iald hO (kt_9_3 hg3) (n := 6) (lt_9_3 hg3) dX11_thing_58 ?_
      exact b_iret hO dX11_thing_59
    refine b_lookOut hO dX11_thing_14 (tgt := 60) (by decide) (by rw [lv_osw hn0 (by decide)]; rw [lv_osw hn1 (by decide)]; rfl) (by decide) ?_
    refine b_iconst hO dX11_thing_60 ic_i_m1 ?_
    exact b_iret hO dX11_thing_61
  · refine b_iconst hO dX11_thing_11 ic_i_m1 ?_
    exact b_iret hO dX11_thing_12
theorem ctX11_thing (n0 : Nat) (hI : Inj LX ad) (x1 : Int32) (x2 : Int32) (M : Mem) : CT l LX D cy ad yX11_thing cX11_thing 3 (some .int) 2 (QI LX D cy ad) [.ref (ad 0), .int x1, .int x2] M (fX11_thing n0 x1 x2 M) :=
  CT.mk LXok hI (by decide) (Nat.le_of_ble_eq_true rfl) (fun hO => tfX11_thing n0 hO x1 x2 M)
/-! X11_lookAt -/
def fX11_lookAt (n0 : Nat) (x1 : Int32) (M : Mem) : Option (Mem) :=
  if oob x1 5 then none else
  if oob x1 5 then none else
  (fX1_hold n0 x1 (gA M 11 (Int32.toNatClampNeg x1)) (gA M 12 (Int32.toNatClampNeg x1)) (gI M 1281) M).bind fun z30 =>
  some z30
theorem tfX11_lookAt (n0 : Nat) (hO : OKc p (rmL 2) s m args meth c LX D cy ad cX11_lookAt RX11 2 2 none) (x1 : Int32) (M : Mem) : BL p l e (rmL 2) s m args below meth c LX D cy ad 2 (QV LX D cy ad) 0 [(0, .ref (ad 0)), (1, .int x1)] [] M (fX11_lookAt n0 x1 M) := by
  unfold fX11_lookAt
  refine b_aload_n hO dX11_lookAt_0 0 rfl rfl ?_
  refine b_get hO flX11_40 kLX_0 (v := .ref (ad 7)) rfl dX11_lookAt_1 ?_
  refine b_iload_n hO dX11_lookAt_4 1 rfl rfl ?_
  refine b_aload_n hO dX11_lookAt_5 0 rfl rfl ?_
  refine b_get hO flX11_47 kLX_0 (v := .ref (ad 10)) rfl dX11_lookAt_6 ?_
  refine b_get hO flX11_193 kLX_10 (v := .ref (ad 11)) rfl dX11_lookAt_9 ?_
  refine b_iload_n hO dX11_lookAt_12 1 rfl rfl ?_
  refine b_iald hO kLX_11 (n := 5) rfl dX11_lookAt_13 ?_
  refine b_aload_n hO dX11_lookAt_14 0 rfl rfl ?_
  refine b_get hO flX11_47 kLX_0 (v := .ref (ad 10)) rfl dX11_lookAt_15 ?_
  refine b_get hO flX11_195 kLX_10 (v := .ref (ad 12)) rfl dX11_lookAt_18 ?_
  refine b_iload_n hO dX11_lookAt_21 1 rfl rfl ?_
  refine b_iald hO kLX_12 (n := 5) rfl dX11_lookAt_22 ?_
  refine b_aload_n hO dX11_lookAt_23 0 rfl rfl ?_
  refine b_get hO flX11_47 kLX_0 (v := .ref (ad 10)) rfl dX11_lookAt_24 ?_
  refine b_get hO flX11_148 kLX_10 (v := .int (gI _ 1281)) rfl dX11_lookAt_27 ?_
  refine b_callVV hO mdX1_hold mvX1_hold w952 (ci := 1) rfl rfl (by decide) kLX_7 (As := [.int _, .int _, .int _, .int _]) (st := []) (ctX1_hold n0 hO.2.2.2.2.2.2.1 _ _ _ _ _) (Nat.le_of_ble_eq_true rfl) rfl rfl (Nat.le_of_ble_eq_true rfl) dX11_lookAt_30 (fun z30 => ?_)
  exact b_vret hO dX11_lookAt_33
theorem ctX11_lookAt (n0 : Nat) (hI : Inj LX ad) (x1 : Int32) (M : Mem) : CT l LX D cy ad yX11_lookAt cX11_lookAt 2 none 2 (QV LX D cy ad) [.ref (ad 0), .int x1] M (fX11_lookAt n0 x1 M) :=
  CT.mk LXok hI (by decide) (Nat.le_of_ble_eq_true rfl) (fun hO => tfX11_lookAt n0 hO x1 M)
/-! X11_hourAt -/
def fX11_hourAt (n0 : Nat) (x1 : Int32) (M : Mem) : Option (Int32 × Mem) :=
  (fX11_lookAt n0 x1 M).bind fun z2 =>
  (fX1_hourNow n0 z2).bind fun z9 =>
  some (z9.1, z9.2)
theorem tfX11_hourAt (n0 : Nat) (hO : OKc p (rmL 5) s m args meth c LX D cy ad cX11_hourAt RX11 2 5 (some .int)) (x1 : Int32) (M : Mem) : BL p l e (rmL 5) s m args below meth c LX D cy ad 2 (QI LX D cy ad) 0 [(0, .ref (ad 0)), (1, .int x1)] [] M (fX11_hourAt n0 x1 M) := by
  unfold fX11_hourAt
  refine b_aload_n hO dX11_hourAt_0 0 rfl rfl ?_
  refine b_iload_n hO dX11_hourAt_1 1 rfl rfl ?_
  refine b_callVV hO mdX11_lookAt mvX11_lookAt w948 (ci := 11) rfl rfl (by decide) kLX_0 (As := [.int _]) (st := []) (ctX11_lookAt n0 hO.2.2.2.2.2.2.1 _ _) (Nat.le_of_ble_eq_true rfl) rfl rfl (Nat.le_of_ble_eq_true rfl) dX11_hourAt_2 (fun z2 => ?_)
  refine b_aload_n hO dX11_hourAt_5 0 rfl rfl ?_
  refine b_get hO flX11_40 kLX_0 (v := .ref (ad 7)) rfl dX11_hourAt_6 ?_
  refine b_callVI hO mdX1_hourNow mvX1_hourNow w953 (ci := 1) rfl rfl (by decide) kLX_7 (As := []) (st := []) (ctX1_hourNow n0 hO.2.2.2.2.2.2.1 _) (Nat.le_of_ble_eq_true rfl) rfl rfl (Nat.le_of_ble_eq_true rfl) dX11_hourAt_9 (fun z9 => ?_)
  exact b_iret hO dX11_hourAt_12
theorem ctX11_hourAt (n0 : Nat) (hI : Inj LX ad) (x1 : Int32) (M : Mem) : CT l LX D cy ad yX11_hourAt cX11_hourAt 2 (some .int) 5 (QI LX D cy ad) [.ref (ad 0), .int x1] M (fX11_hourAt n0 x1 M) :=
  CT.mk LXok hI (by decide) (Nat.le_of_ble_eq_true rfl) (fun hO => tfX11_hourAt n0 hO x1 M)
/-! X11_corner -/
def fX11_corner (n0 : Nat) (x1 : Int32) (x2 : Int32) (M : Mem) : Option (Int32 × Mem) :=
  (fX9_isCorner n0 (gR M 1) x1 M).bind fun z5 =>
  if z5.1 = 0 then
    some ((-1 : Int32), z5.2)
  else
    if x2 = 0 then
      if oob x1 5 then none else
      some ((gA z5.2 11 (Int32.toNatClampNeg x1)), z5.2)
    else
    if x2 = 1 then
      if oob x1 5 then none else
      some ((gA z5.2 12 (Int32.toNatClampNeg x1)), z5.2)
    else
    if x2 = 2 then
      (fX11_hourAt n0 x1 z5.2).bind fun z62 =>
      some (z62.1, z62.2)
    else
    some ((-1 : Int32), z5.2)
theorem tfX11_corner (n0 : Nat) (hO : OKc p (rmL 6) s m args meth c LX D cy ad cX11_corner RX11 3 6 (some .int)) (x1 : Int32) (x2 : Int32) (M : Mem) : BL p l e (rmL 6) s m args below meth c LX D cy ad 3 (QI LX D cy ad) 0 [(0, .ref (ad 0)), (1, .int x1), (2, .int x2)] [] M (fX11_corner n0 x1 x2 M) := by
  unfold fX11_corner
  refine b_aload_n hO dX11_corner_0 0 rfl rfl ?_
  refine b_getR hO flX11_19 kLX_0 (id := 1) rfl rfl (rk := 9) rfl (by decide) dX11_corner_1 (fun hg1 => ?_)
  refine b_iload_n hO dX11_corner_4 1 rfl rfl ?_
  refine b_callVI hO mdX9_isCorner mvX9_isCorner w928 (ci := 9) rfl rfl (by decide) hg1 (As := [.int _]) (st := []) (ctX9_isCorner n0 _ hg1 hO.2.2.2.2.2.2.1 _ _) (Nat.le_of_ble_eq_true rfl) rfl rfl (Nat.le_of_ble_eq_true rfl) dX11_corner_5 (fun z5 => ?_)
  refine b_if_ne hO dX11_corner_8 (tgt := 13) (by decide) ?_ ?_
  · refine b_iload_n hO dX11_corner_13 2 rfl rfl ?_
    refine b_tabIn hO dX11_corner_14 (v := 0) (z := 0) (tgt := 40) (by decide) (by decide) (by decide) rfl (by decide) ?_ (fun hn0 => ?_)
    · refine b_aload_n hO dX11_corner_40 0 rfl rfl ?_
      refine b_get hO flX11_47 kLX_0 (v := .ref (ad 10)) rfl dX11_corner_41 ?_
      refine b_get hO flX11_193 kLX_10 (v := .ref (ad 11)) rfl dX11_corner_44 ?_
      refine b_iload_n hO dX11_corner_47 1 rfl rfl ?_
      refine b_iald hO kLX_11 (n := 5) rfl dX11_corner_48 ?_
      exact b_iret hO dX11_corner_49
    refine b_tabIn hO dX11_corner_14 (v := 1) (z := 1) (tgt := 50) (by decide) (by decide) (by decide) rfl (by decide) ?_ (fun hn1 => ?_)
    · refine b_aload_n hO dX11_corner_50 0 rfl rfl ?_
      refine b_get hO flX11_47 kLX_0 (v := .ref (ad 10)) rfl dX11_corner_51 ?_
      refine b_get hO flX11_195 kLX_10 (v := .ref (ad 12)) rfl dX11_corner_54 ?_
      refine b_iload_n hO dX11_corner_57 1 rfl rfl ?_
      refine b_iald hO kLX_12 (n := 5) rfl dX11_corner_58 ?_
      exact b_iret hO dX11_corner_59
    refine b_tabIn hO dX11_corner_14 (v := 2) (z := 2) (tgt := 60) (by decide) (by decide) (by decide) rfl (by decide) ?_ (fun hn2 => ?_)
    · refine b_aload_n hO dX11_corner_60 0 rfl rfl ?_
      refine b_iload_n hO dX11_corner_61 1 rfl rfl ?_
      refine b_callVI hO mdX11_hourAt mvX11_hourAt w944 (ci := 11) rfl rfl (by decide) kLX_0 (As := [.int _]) (st := []) (ctX11_hourAt n0 hO.2.2.2.2.2.2.1 _ _) (Nat.le_of_ble_eq_true rfl) rfl rfl (Nat.le_of_ble_eq_true rfl) dX11_corner_62 (fun z62 => ?_)
      exact b_iret hO dX11_corner_65
    refine b_tabOut hO dX11_corner_14 (tgt := 66) (by omega) (by decide) ?_
    refine b_iconst hO dX11_corner_66 ic_i_m1 ?_
    exact b_iret hO dX11_corner_67
  · refine b_iconst hO dX11_corner_11 ic_i_m1 ?_
    exact b_iret hO dX11_corner_12
theorem ctX11_corner (n0 : Nat) (hI : Inj LX ad) (x1 : Int32) (x2 : Int32) (M : Mem) : CT l LX D cy ad yX11_corner cX11_corner 3 (some .int) 6 (QI LX D cy ad) [.ref (ad 0), .int x1, .int x2] M (fX11_corner n0 x1 x2 M) :=
  CT.mk LXok hI (by decide) (Nat.le_of_ble_eq_true rfl) (fun hO => tfX11_corner n0 hO x1 x2 M)
/-! X11_doing -/
def fX11_doing (n0 : Nat) (x1 : Int32) (x2 : Int32) (M : Mem) : Option (Int32 × Mem) :=
  (fX9_isDoing n0 (gR M 1) x1 M).bind fun z5 =>
  if z5.1 = 0 then
    some ((-1 : Int32), z5.2)
  else
    if x2 = 0 then
      if oob x1 6 then none else
      some ((gA z5.2 ((gR z5.2 1) + 10) (Int32.toNatClampNeg x1)), z5.2)
    else
    if x2 = 1 then
      if oob x1 6 then none else
      some ((gA z5.2 ((gR z5.2 1) + 11) (Int32.toNatClampNeg x1)), z5.2)
    else
    if x2 = 2 then
      if oob x1 6 then none else
      some ((gA z5.2 13 (Int32.toNatClampNeg x1)), z5.2)
    else
    some ((-1 : Int32), z5.2)
theorem tfX11_doing (n0 : Nat) (hO : OKc p (rmL 2) s m args meth c LX D cy ad cX11_doing RX11 3 2 (some .int)) (x1 : Int32) (x2 : Int32) (M : Mem) : BL p l e (rmL 2) s m args below meth c LX D cy ad 3 (QI LX D cy ad) 0 [(0, .ref (ad 0)), (1, .int x1), (2, .int x2)] [] M (fX11_doing n0 x1 x2 M) := by
  unfold fX11_doing
  refine b_aload_n hO dX11_doing_0 0 rfl rfl ?_
  refine b_getR hO flX11_19 kLX_0 (id := 1) rfl rfl (rk := 9) rfl (by decide) dX11_doing_1 (fun hg1 => ?_)
  refine b_iload_n hO dX11_doing_4 1 rfl rfl ?_
  refine b_callVI hO mdX9_isDoing mvX9_isDoing w932 (ci := 9) rfl rfl (by decide) hg1 (As := [.int _]) (st := []) (ctX9_isDoing n0 _ hg1 hO.2.2.2.2.2.2.1 _ _) (Nat.le_of_ble_eq_true rfl) rfl rfl (Nat.le_of_ble_eq_true rfl) dX11_doing_5 (fun z5 => ?_)
  refine b_if_ne hO dX11_doing_8 (tgt := 13) (by decide) ?_ ?_
  · refine b_iload_n hO dX11_doing_13 2 rfl rfl ?_
    refine b_tabIn hO dX11_doing_14 (v := 0) (z := 0) (tgt := 40) (by decide) (by decide) (by decide) rfl (by decide) ?_ (fun hn0 => ?_)
    · refine b_aload_n hO dX11_doing_40 0 rfl rfl ?_
      refine b_getR hO flX11_19 kLX_0 (id := 1) rfl rfl (rk := 9) rfl (by decide) dX11_doing_41 (fun hg2 => ?_)
      refine b_get hO flX11_201 hg2 (v := .ref (ad ((gR z5.2 1) + 10))) rfl dX11_doing_44 ?_
      refine b_iload_n hO dX11_doing_47 1 rfl rfl ?_
      refine b_iald hO (kt_9_10 hg2) (n := 6) (lt_9_10 hg2) dX11_doing_48 ?_
      exact b_iret hO dX11_doing_49
    refine b_tabIn hO dX11_doing_14 (v := 1) (z := 1) (tgt := 50) (by decide) (by decide) (by decide) rfl (by decide) ?_ (fun hn1 => ?_)
    · refine b_aload_n hO dX11_doing_50 0 rfl rfl ?_
      refine b_getR hO flX11_19 kLX_0 (id := 1) rfl rfl (rk := 9) rfl (by decide) dX11_doing_51 (fun hg3 => ?_)
      refine b_get hO flX11_204 hg3 (v := .ref (ad ((gR z5.2 1) + 11))) rfl dX11_doing_54 ?_
      refine b_iload_n hO dX11_doing_57 1 rfl rfl ?_
      refine b_iald hO (kt_9_11 hg3) (n := 6) (lt_9_11 hg3) dX11_doing_58 ?_
      exact b_iret hO dX11_doing_59
    refine b_tabIn hO dX11_doing_14 (v := 2) (z := 2) (tgt := 60) (by decide) (by decide) (by decide) rfl (by decide) ?_ (fun hn2 => ?_)
    · refine b_aload_n hO dX11_doing_60 0 rfl rfl ?_
      refine b_get hO flX11_47 kLX_0 (v := .ref (ad 10)) rfl dX11_doing_61 ?_
      refine b_get hO flX11_207 kLX_10 (v := .ref (ad 13)) rfl dX11_doing_64 ?_
      refine b_iload_n hO dX11_doing_67 1 rfl rfl ?_
      refine b_iald hO kLX_13 (n := 6) rfl dX11_doing_68 ?_
      exact b_iret hO dX11_doing_69
    refine b_tabOut hO dX11_doing_14 (tgt := 70) (by omega) (by decide) ?_
    refine b_iconst hO dX11_doing_70 ic_i_m1 ?_
    exact b_iret hO dX11_doing_71
  · refine b_iconst hO dX11_doing_11 ic_i_m1 ?_
    exact b_iret hO dX11_doing_12
theorem ctX11_doing (n0 : Nat) (hI : Inj LX ad) (x1 : Int32) (x2 : Int32) (M : Mem) : CT l LX D cy ad yX11_doing cX11_doing 3 (some .int) 2 (QI LX D cy ad) [.ref (ad 0), .int x1, .int x2] M (fX11_doing n0 x1 x2 M) :=
  CT.mk LXok hI (by decide) (Nat.le_of_ble_eq_true rfl) (fun hO => tfX11_doing n0 hO x1 x2 M)
/-! X11_isBeyond -/
def fX11_isBeyond (n0 : Nat) (x1 : Int32) (M : Mem) : Option (Int32 × Mem) :=
  if x1 ≤ ((9999 : Int32) - (gI M 1281)) then
    some ((0 : Int32), M)
  else
    some ((1 : Int32), M)
theorem tfX11_isBeyond (n0 : Nat) (hO : OKc p (rmL 1) s m args meth c LX D cy ad cX11_isBeyond RX11 2 1 (some .boolean)) (x1 : Int32) (M : Mem) : BL p l e (rmL 1) s m args below meth c LX D cy ad 2 (QI LX D cy ad) 0 [(0, .ref (ad 0)), (1, .int x1)] [] M (fX11_isBeyond n0 x1 M) := by
  unfold fX11_isBeyond
  refine b_iload_n hO dX11_isBeyond_0 1 rfl rfl ?_
  refine b_sipush hO dX11_isBeyond_1 ic_s_9999 ?_
  refine b_aload_n hO dX11_isBeyond_4 0 rfl rfl ?_
  refine b_get hO flX11_47 kLX_0 (v := .ref (ad 10)) rfl dX11_isBeyond_5 ?_
  refine b_get hO flX11_148 kLX_10 (v := .int (gI _ 1281)) rfl dX11_isBeyond_8 ?_
  refine b_isub hO dX11_isBeyond_11 ?_
  refine b_icmp_le hO dX11_isBeyond_12 (tgt := 19) (by decide) ?_ ?_
  · refine b_iconst hO dX11_isBeyond_19 ic_i_0 ?_
    exact b_zretc hO (Or.inl rfl) dX11_isBeyond_20
  · refine b_iconst hO dX11_isBeyond_15 ic_i_1 ?_
    refine b_goto hO dX11_isBeyond_16 (tgt := 20) (by decide) ?_
    exact b_zretc hO (Or.inr rfl) dX11_isBeyond_20
theorem ctX11_isBeyond (n0 : Nat) (hI : Inj LX ad) (x1 : Int32) (M : Mem) : CT l LX D cy ad yX11_isBeyond cX11_isBeyond 2 (some .boolean) 1 (QI LX D cy ad) [.ref (ad 0), .int x1] M (fX11_isBeyond n0 x1 M) :=
  CT.mk LXok hI (by decide) (Nat.le_of_ble_eq_true rfl) (fun hO => tfX11_isBeyond n0 hO x1 M)
/-! X11_foresee -/
def fX11_foresee (n0 : Nat) (q2 : Nat) (x1 : Int32) (x3 : Int32) (M : Mem) : Option (Int32 × Mem) :=
  (fX11_lookAt n0 x1 M).bind fun z2 =>
  (fX1_foresee n0 q2 x3 z2).bind fun z11 =>
  some (z11.1, z11.2)
theorem tfX11_foresee (n0 : Nat) (q2 : Nat) (hq2 : isK LX q2 13) (hO : OKc p (rmL 6) s m args meth c LX D cy ad cX11_foresee RX11 4 6 (some .int)) (x1 : Int32) (x3 : Int32) (M : Mem) : BL p l e (rmL 6) s m args below meth c LX D cy ad 4 (QI LX D cy ad) 0 [(0, .ref (ad 0)), (1, .int x1), (2, .ref (ad q2)), (3, .int x3)] [] M (fX11_foresee n0 q2 x1 x3 M) := by
  unfold fX11_foresee
  refine b_aload_n hO dX11_foresee_0 0 rfl rfl ?_
  refine b_iload_n hO dX11_foresee_1 1 rfl rfl ?_
  refine b_callVV hO mdX11_lookAt mvX11_lookAt w948 (ci := 11) rfl rfl (by decide) kLX_0 (As := [.int _]) (st := []) (ctX11_lookAt n0 hO.2.2.2.2.2.2.1 _ _) (Nat.le_of_ble_eq_true rfl) rfl rfl (Nat.le_of_ble_eq_true rfl) dX11_foresee_2 (fun z2 => ?_)
  refine b_aload_n hO dX11_foresee_5 0 rfl rfl ?_
  refine b_get hO flX11_40 kLX_0 (v := .ref (ad 7)) rfl dX11_foresee_6 ?_
  refine b_aload_n hO dX11_foresee_9 2 rfl rfl ?_
  refine b_iload_n hO dX11_foresee_10 3 rfl rfl ?_
  refine b_callVI hO mdX1_foresee mvX1_foresee w970 (ci := 1) rfl rfl (by decide) kLX_7 (As := [.ref _, .int _]) (st := []) (ctX1_foresee n0 _ hq2 hO.2.2.2.2.2.2.1 _ _) (Nat.le_of_ble_eq_true rfl) rfl rfl (Nat.le_of_ble_eq_true rfl) dX11_foresee_11 (fun z11 => ?_)
  exact b_iret hO dX11_foresee_14
theorem ctX11_foresee (n0 : Nat) (q2 : Nat) (hq2 : isK LX q2 13) (hI : Inj LX ad) (x1 : Int32) (x3 : Int32) (M : Mem) : CT l LX D cy ad yX11_foresee cX11_foresee 4 (some .int) 6 (QI LX D cy ad) [.ref (ad 0), .int x1, .ref (ad q2), .int x3] M (fX11_foresee n0 q2 x1 x3 M) :=
  CT.mk LXok hI (by decide) (Nat.le_of_ble_eq_true rfl) (fun hO => tfX11_foresee n0 q2 hq2 hO x1 x3 M)
/-! X11_later -/
def fX11_later (n0 : Nat) (x1 : Int32) (x2 : Int32) (M : Mem) : Option (Int32 × Mem) :=
  (fX9_isCorner n0 (gR M 1) x1 M).bind fun z5 =>
  if z5.1 = 0 then
    some ((-1 : Int32), z5.2)
  else
    if x2 < 0 then
      some ((-1 : Int32), z5.2)
    else
      if (60 : Int32) < x2 then
        some ((-1 : Int32), z5.2)
      else
        (fX11_isBeyond n0 x2 z5.2).bind fun z23 =>
        if z23.1 = 0 then
          (fX11_foresee n0 26 x1 x2 z23.2).bind fun z38 =>
          if oob x2 61 then none else
          some ((gA z38.2 26 (Int32.toNatClampNeg x2)), z38.2)
        else
          some ((-1 : Int32), z23.2)
theorem tfX11_later (n0 : Nat) (hO : OKc p (rmL 7) s m args meth c LX D cy ad cX11_later RX11 3 7 (some .int)) (x1 : Int32) (x2 : Int32) (M : Mem) : BL p l e (rmL 7) s m args below meth c LX D cy ad 3 (QI LX D cy ad) 0 [(0, .ref (ad 0)), (1, .int x1), (2, .int x2)] [] M (fX11_later n0 x1 x2 M) := by
  unfold fX11_later
  refine b_aload_n hO dX11_later_0 0 rfl rfl ?_
  refine b_getR hO flX11_19 kLX_0 (id := 1) rfl rfl (rk := 9) rfl (by decide) dX11_later_1 (fun hg1 => ?_)
  refine b_iload_n hO dX11_later_4 1 rfl rfl ?_
  refine b_callVI hO mdX9_isCorner mvX9_isCorner w928 (ci := 9) rfl rfl (by decide) hg1 (As := [.int _]) (st := []) (ctX9_isCorner n0 _ hg1 hO.2.2.2.2.2.2.1 _ _) (Nat.le_of_ble_eq_true rfl) rfl rfl (Nat.le_of_ble_eq_true rfl) dX11_later_5 (fun z5 => ?_)
  refine b_if_eq hO dX11_later_8 (tgt := 29) (by decide) ?_ ?_
  · refine b_iconst hO dX11_later_29 ic_i_m1 ?_
    exact b_iret hO dX11_later_30
  · refine b_iload_n hO dX11_later_11 2 rfl rfl ?_
    refine b_if_lt hO dX11_later_12 (tgt := 29) (by decide) ?_ ?_
    · refine b_iconst hO dX11_later_29 ic_i_m1 ?_
      exact b_iret hO dX11_later_30
    · refine b_iload_n hO dX11_later_15 2 rfl rfl ?_
      refine b_bipush hO dX11_later_16 ic_b_60 ?_
      refine b_icmp_gt hO dX11_later_18 (tgt := 29) (by decide) ?_ ?_
      · refine b_iconst hO dX11_later_29 ic_i_m1 ?_
        exact b_iret hO dX11_later_30
      · refine b_aload_n hO dX11_later_21 0 rfl rfl ?_
        refine b_iload_n hO dX11_later_22 2 rfl rfl ?_
        refine b_callVI hO mdX11_isBeyond mvX11_isBeyond w962 (ci := 11) rfl rfl (by decide) kLX_0 (As := [.int _]) (st := []) (ctX11_isBeyond n0 hO.2.2.2.2.2.2.1 _ _) (Nat.le_of_ble_eq_true rfl) rfl rfl (Nat.le_of_ble_eq_true rfl) dX11_later_23 (fun z23 => ?_)
        refine b_if_eq hO dX11_later_26 (tgt := 31) (by decide) ?_ ?_
        · refine b_aload_n hO dX11_later_31 0 rfl rfl ?_
          refine b_iload_n hO dX11_later_32 1 rfl rfl ?_
          refine b_aload_n hO dX11_later_33 0 rfl rfl ?_
          refine b_get hO flX11_72 kLX_0 (v := .ref (ad 26)) rfl dX11_later_34 ?_
          refine b_iload_n hO dX11_later_37 2 rfl rfl ?_
          refine b_callVI hO mdX11_foresee mvX11_foresee w966 (ci := 11) rfl rfl (by decide) kLX_0 (As := [.int _, .ref _, .int _]) (st := []) (ctX11_foresee n0 _ kLX_26 hO.2.2.2.2.2.2.1 _ _ _) (Nat.le_of_ble_eq_true rfl) rfl rfl (Nat.le_of_ble_eq_true rfl) dX11_later_38 (fun z38 => ?_)
          refine b_pop hO dX11_later_41 rfl ?_
          refine b_aload_n hO dX11_later_42 0 rfl rfl ?_
          refine b_get hO flX11_72 kLX_0 (v := .ref (ad 26)) rfl dX11_later_43 ?_
          refine b_iload_n hO dX11_later_46 2 rfl rfl ?_
          refine b_iald hO kLX_26 (n := 61) rfl dX11_later_47 ?_
          exact b_iret hO dX11_later_48
        · refine b_iconst hO dX11_later_29 ic_i_m1 ?_
          exact b_iret hO dX11_later_30
theorem ctX11_later (n0 : Nat) (hI : Inj LX ad) (x1 : Int32) (x2 : Int32) (M : Mem) : CT l LX D cy ad yX11_later cX11_later 3 (some .int) 7 (QI LX D cy ad) [.ref (ad 0), .int x1, .int x2] M (fX11_later n0 x1 x2 M) :=
  CT.mk LXok hI (by decide) (Nat.le_of_ble_eq_true rfl) (fun hO => tfX11_later n0 hO x1 x2 M)
/-! X11_when -/
def bX11_when_50 (n0 : Nat) (k50 : Int32 → Int32 → Int32 → Mem → Option (Int32 × Mem)) (x1 : Int32) (x2 : Int32) (x3 : Int32) (M : Mem) : Option (Int32 × Mem) :=
  if x2 < x3 then
    some ((-1 : Int32), M)
  else
    if oob x3 61 then none else
    if oob x1 6 then none else
    if (gA M 26 (Int32.toNatClampNeg x3)) = (gA M ((gR M 1) + 11) (Int32.toNatClampNeg x1)) then
      some (x3, M)
    else
      k50 x1 x2 (x3 + (1 : Int32)) M
def fX11_when_50 (n0 : Nat) : Int32 → Int32 → Int32 → Mem → Option (Int32 × Mem) := loopN (bX11_when_50 n0) (fun _ _ _ _ => none) n0
def fX11_when (n0 : Nat) (x1 : Int32) (M : Mem) : Option (Int32 × Mem) :=
  (fX9_isDoing n0 (gR M 1) x1 M).bind fun z5 =>
  if z5.1 = 0 then
    some ((-1 : Int32), z5.2)
  else
    if oob x1 6 then none else
    if (gA z5.2 13 (Int32.toNatClampNeg x1)) = (1 : Int32) then
      some ((0 : Int32), z5.2)
    else
      if oob x1 6 then none else
      (fX11_foresee n0 26 (gA z5.2 ((gR z5.2 1) + 10) (Int32.toNatClampNeg x1)) (60 : Int32) z5.2).bind fun z44 =>
      fX11_when_50 n0 x1 z44.1 (1 : Int32) z44.2
theorem tbX11_when_50 (n0 : Nat) (hO : OKc p (rmL 7) s m args meth c LX D cy ad cX11_when RX11 4 7 (some .int)) (k50 : Int32 → Int32 → Int32 → Mem → Option (Int32 × Mem)) (hk50 : ∀ (x1 : Int32) (x2 : Int32) (x3 : Int32) (M : Mem), BL p l e (rmL 7) s m args below meth c LX D cy ad 4 (QI LX D cy ad) 50 [(0, .ref (ad 0)), (1, .int x1), (2, .int x2), (3, .int x3)] [] M (k50 x1 x2 x3 M)) (x1 : Int32) (x2 : Int32) (x3 : Int32) (M : Mem) : BL p l e (rmL 7) s m args below meth c LX D cy ad 4 (QI LX D cy ad) 50 [(0, .ref (ad 0)), (1, .int x1), (2, .int x2), (3, .int x3)] [] M (bX11_when_50 n0 k50 x1 x2 x3 M) := by
  unfold bX11_when_50
  refine b_iload_n hO dX11_when_50 3 rfl rfl ?_
  refine b_iload_n hO dX11_when_51 2 rfl rfl ?_
  refine b_icmp_gt hO dX11_when_52 (tgt := 81) (by decide) ?_ ?_
  · refine b_iconst hO dX11_when_81 ic_i_m1 ?_
    exact b_iret hO dX11_when_82
  · refine b_aload_n hO dX11_when_55 0 rfl rfl ?_
    refine b_get hO flX11_72 kLX_0 (v := .ref (ad 26)) rfl dX11_when_56 ?_
    refine b_iload_n hO dX11_when_59 3 rfl rfl ?_
    refine b_iald hO kLX_26 (n := 61) rfl dX11_when_60 ?_
    refine b_aload_n hO dX11_when_61 0 rfl rfl ?_
    refine b_getR hO flX11_19 kLX_0 (id := 1) rfl rfl (rk := 9) rfl (by decide) dX11_when_62 (fun hg1 => ?_)
    refine b_get hO flX11_204 hg1 (v := .ref (ad ((gR M 1) + 11))) rfl dX11_when_65 ?_
    refine b_iload_n hO dX11_when_68 1 rfl rfl ?_
    refine b_iald hO (kt_9_11 hg1) (n := 6) (lt_9_11 hg1) dX11_when_69 ?_
    refine b_icmp_ne hO dX11_when_70 (tgt := 75) (by decide) ?_ ?_
    · refine b_iinc hO dX11_when_75 3 rfl ic_i_1 (by decide) (lv' := [(3, .int _), (0, .ref _), (1, .int _), (2, .int _)]) rfl ?_
      refine b_goto hO dX11_when_78 (tgt := 50) (by decide) ?_
      refine b_sub [1, 2, 3, 0] rfl ?_
      exact hk50 _ _ _ _
    · refine b_iload_n hO dX11_when_73 3 rfl rfl ?_
      exact b_iret hO dX11_when_74
theorem lX11_when_50 (n0 : Nat) (hO : OKc p (rmL 7) s m args meth c LX D cy ad cX11_when RX11 4 7 (some .int)) : ∀ (w : Nat) (x1 : Int32) (x2 : Int32) (x3 : Int32) (M : Mem), BL p l e (rmL 7) s m args below meth c LX D cy ad 4 (QI LX D cy ad) 50 [(0, .ref (ad 0)), (1, .int x1), (2, .int x2), (3, .int x3)] [] M (loopN (bX11_when_50 n0) (fun _ _ _ _ => none) w x1 x2 x3 M) := by
  intro w
  induction w with
  | zero =>
    intros
    exact b_none
  | succ w ih =>
    intro x1 x2 x3 M
    exact tbX11_when_50 n0 hO _ ih x1 x2 x3 M
theorem tfX11_when_50 (n0 : Nat) (hO : OKc p (rmL 7) s m args meth c LX D cy ad cX11_when RX11 4 7 (some .int)) (x1 : Int32) (x2 : Int32) (x3 : Int32) (M : Mem) : BL p l e (rmL 7) s m args below meth c LX D cy ad 4 (QI LX D cy ad) 50 [(0, .ref (ad 0)), (1, .int x1), (2, .int x2), (3, .int x3)] [] M (fX11_when_50 n0 x1 x2 x3 M) := lX11_when_50 n0 hO n0 x1 x2 x3 M
theorem tfX11_when (n0 : Nat) (hO : OKc p (rmL 7) s m args meth c LX D cy ad cX11_when RX11 4 7 (some .int)) (x1 : Int32) (M : Mem) : BL p l e (rmL 7) s m args below meth c LX D cy ad 4 (QI LX D cy ad) 0 [(0, .ref (ad 0)), (1, .int x1)] [] M (fX11_when n0 x1 M) := by
  unfold fX11_when
  refine b_aload_n hO dX11_when_0 0 rfl rfl ?_
  refine b_getR hO flX11_19 kLX_0 (id := 1) rfl rfl (rk := 9) rfl (by decide) dX11_when_1 (fun hg1 => ?_)
  refine b_iload_n hO dX11_when_4 1 rfl rfl ?_
  refine b_callVI hO mdX9_isDoing mvX9_isDoing w932 (ci := 9) rfl rfl (by decide) hg1 (As := [.int _]) (st := []) (ctX9_isDoing n0 _ hg1 hO.2.2.2.2.2.2.1 _ _) (Nat.le_of_ble_eq_true rfl) rfl rfl (Nat.le_of_ble_eq_true rfl) dX11_when_5 (fun z5 => ?_)
  refine b_if_ne hO dX11_when_8 (tgt := 13) (by decide) ?_ ?_
  · refine b_aload_n hO dX11_when_13 0 rfl rfl ?_
    refine b_get hO flX11_47 kLX_0 (v := .ref (ad 10)) rfl dX11_when_14 ?_
    refine b_get hO flX11_207 kLX_10 (v := .ref (ad 13)) rfl dX11_when_17 ?_
    refine b_iload_n hO dX11_when_20 1 rfl rfl ?_
    refine b_iald hO kLX_13 (n := 6) rfl dX11_when_21 ?_
    refine b_iconst hO dX11_when_22 ic_i_1 ?_
    refine b_icmp_ne hO dX11_when_23 (tgt := 28) (by decide) ?_ ?_
    · refine b_aload_n hO dX11_when_28 0 rfl rfl ?_
      refine b_aload_n hO dX11_when_29 0 rfl rfl ?_
      refine b_getR hO flX11_19 kLX_0 (id := 1) rfl rfl (rk := 9) rfl (by decide) dX11_when_30 (fun hg2 => ?_)
      refine b_get hO flX11_201 hg2 (v := .ref (ad ((gR z5.2 1) + 10))) rfl dX11_when_33 ?_
      refine b_iload_n hO dX11_when_36 1 rfl rfl ?_
      refine b_iald hO (kt_9_10 hg2) (n := 6) (lt_9_10 hg2) dX11_when_37 ?_
      refine b_aload_n hO dX11_when_38 0 rfl rfl ?_
      refine b_get hO flX11_72 kLX_0 (v := .ref (ad 26)) rfl dX11_when_39 ?_
      refine b_bipush hO dX11_when_42 ic_b_60 ?_
      refine b_callVI hO mdX11_foresee mvX11_foresee w966 (ci := 11) rfl rfl (by decide) kLX_0 (As := [.int _, .ref _, .int _]) (st := []) (ctX11_foresee n0 _ kLX_26 hO.2.2.2.2.2.2.1 _ _ _) (Nat.le_of_ble_eq_true rfl) rfl rfl (Nat.le_of_ble_eq_true rfl) dX11_when_44 (fun z44 => ?_)
      refine b_istore_n hO dX11_when_47 rfl (by decide) (lv' := [(2, .int _), (0, .ref _), (1, .int _)]) rfl ?_
      refine b_iconst hO dX11_when_48 ic_i_1 ?_
      refine b_istore_n hO dX11_when_49 rfl (by decide) (lv' := [(3, .int _), (2, .int _), (0, .ref _), (1, .int _)]) rfl ?_
      refine b_sub [2, 3, 1, 0] rfl ?_
      exact tfX11_when_50 n0 hO _ _ _ _
    · refine b_iconst hO dX11_when_26 ic_i_0 ?_
      exact b_iret hO dX11_when_27
  · refine b_iconst hO dX11_when_11 ic_i_m1 ?_
    exact b_iret hO dX11_when_12
theorem ctX11_when (n0 : Nat) (hI : Inj LX ad) (x1 : Int32) (M : Mem) : CT l LX D cy ad yX11_when cX11_when 4 (some .int) 7 (QI LX D cy ad) [.ref (ad 0), .int x1] M (fX11_when n0 x1 M) :=
  CT.mk LXok hI (by decide) (Nat.le_of_ble_eq_true rfl) (fun hO => tfX11_when n0 hO x1 M)
/-! X11_alike -/
def bX11_alike_56 (n0 : Nat) (k56 : Int32 → Int32 → Mem → Option (Int32 × Mem)) (x3 : Int32) (x4 : Int32) (M : Mem) : Option (Int32 × Mem) :=
  if x3 < x4 then
    some ((-1 : Int32), M)
  else
    if oob x4 61 then none else
    if oob x4 61 then none else
    if (gA M 26 (Int32.toNatClampNeg x4)) = (gA M 27 (Int32.toNatClampNeg x4)) then
      some (x4, M)
    else
      k56 x3 (x4 + (1 : Int32)) M
def fX11_alike_56 (n0 : Nat) : Int32 → Int32 → Mem → Option (Int32 × Mem) := loopN (bX11_alike_56 n0) (fun _ _ _ => none) n0
def fX11_alike (n0 : Nat) (x1 : Int32) (x2 : Int32) (M : Mem) : Option (Int32 × Mem) :=
  (fX9_isCorner n0 (gR M 1) x1 M).bind fun z5 =>
  if z5.1 = 0 then
    some ((-1 : Int32), z5.2)
  else
    (fX9_isCorner n0 (gR z5.2 1) x2 z5.2).bind fun z16 =>
    if z16.1 = 0 then
      some ((-1 : Int32), z16.2)
    else
      if x1 = x2 then
        some ((-1 : Int32), z16.2)
      else
        (fX11_foresee n0 26 x1 (60 : Int32) z16.2).bind fun z37 =>
        (fX11_foresee n0 27 x2 (60 : Int32) z37.2).bind fun z49 =>
        fX11_alike_56 n0 z37.1 (0 : Int32) z49.2
theorem tbX11_alike_56 (n0 : Nat) (hO : OKc p (rmL 7) s m args meth c LX D cy ad cX11_alike RX11 5 7 (some .int)) (k56 : Int32 → Int32 → Mem → Option (Int32 × Mem)) (hk56 : ∀ (x3 : Int32) (x4 : Int32) (M : Mem), BL p l e (rmL 7) s m args below meth c LX D cy ad 5 (QI LX D cy ad) 56 [(0, .ref (ad 0)), (3, .int x3), (4, .int x4)] [] M (k56 x3 x4 M)) (x3 : Int32) (x4 : Int32) (M : Mem) : BL p l e (rmL 7) s m args below meth c LX D cy ad 5 (QI LX D cy ad) 56 [(0, .ref (ad 0)), (3, .int x3), (4, .int x4)] [] M (bX11_alike_56 n0 k56 x3 x4 M) := by
  unfold bX11_alike_56
  refine b_iload hO dX11_alike_56 2 rfl ?_
  refine b_iload_n hO dX11_alike_58 1 rfl rfl ?_
  refine b_icmp_gt hO dX11_alike_59 (tgt := 88) (by decide) ?_ ?_
  · refine b_iconst hO dX11_alike_88 ic_i_m1 ?_
    exact b_iret hO dX11_alike_89
  · refine b_aload_n hO dX11_alike_62 0 rfl rfl ?_
    refine b_get hO flX11_72 kLX_0 (v := .ref (ad 26)) rfl dX11_alike_63 ?_
    refine b_iload hO dX11_alike_66 2 rfl ?_
    refine b_iald hO kLX_26 (n := 61) rfl dX11_alike_68 ?_
    refine b_aload_n hO dX11_alike_69 0 rfl rfl ?_
    refine b_get hO flX11_76 kLX_0 (v := .ref (ad 27)) rfl dX11_alike_70 ?_
    refine b_iload hO dX11_alike_73 2 rfl ?_
    refine b_iald hO kLX_27 (n := 61) rfl dX11_alike_75 ?_
    refine b_icmp_ne hO dX11_alike_76 (tgt := 82) (by decide) ?_ ?_
    · refine b_iinc hO dX11_alike_82 2 rfl ic_i_1 (by decide) (lv' := [(4, .int _), (0, .ref _), (3, .int _)]) rfl ?_
      refine b_goto hO dX11_alike_85 (tgt := 56) (by decide) ?_
      refine b_sub [1, 2, 0] rfl ?_
      exact hk56 _ _ _
    · refine b_iload hO dX11_alike_79 2 rfl ?_
      exact b_iret hO dX11_alike_81
theorem lX11_alike_56 (n0 : Nat) (hO : OKc p (rmL 7) s m args meth c LX D cy ad cX11_alike RX11 5 7 (some .int)) : ∀ (w : Nat) (x3 : Int32) (x4 : Int32) (M : Mem), BL p l e (rmL 7) s m args below meth c LX D cy ad 5 (QI LX D cy ad) 56 [(0, .ref (ad 0)), (3, .int x3), (4, .int x4)] [] M (loopN (bX11_alike_56 n0) (fun _ _ _ => none) w x3 x4 M) := by
  intro w
  induction w with
  | zero =>
    intros
    exact b_none
  | succ w ih =>
    intro x3 x4 M
    exact tbX11_alike_56 n0 hO _ ih x3 x4 M
theorem tfX11_alike_56 (n0 : Nat) (hO : OKc p (rmL 7) s m args meth c LX D cy ad cX11_alike RX11 5 7 (some .int)) (x3 : Int32) (x4 : Int32) (M : Mem) : BL p l e (rmL 7) s m args below meth c LX D cy ad 5 (QI LX D cy ad) 56 [(0, .ref (ad 0)), (3, .int x3), (4, .int x4)] [] M (fX11_alike_56 n0 x3 x4 M) := lX11_alike_56 n0 hO n0 x3 x4 M
theorem tfX11_alike (n0 : Nat) (hO : OKc p (rmL 7) s m args meth c LX D cy ad cX11_alike RX11 5 7 (some .int)) (x1 : Int32) (x2 : Int32) (M : Mem) : BL p l e (rmL 7) s m args below meth c LX D cy ad 5 (QI LX D cy ad) 0 [(0, .ref (ad 0)), (1, .int x1), (2, .int x2)] [] M (fX11_alike n0 x1 x2 M) := by
  unfold fX11_alike
  refine b_aload_n hO dX11_alike_0 0 rfl rfl ?_
  refine b_getR hO flX11_19 kLX_0 (id := 1) rfl rfl (rk := 9) rfl (by decide) dX11_alike_1 (fun hg1 => ?_)
  refine b_iload_n hO dX11_alike_4 1 rfl rfl ?_
  refine b_callVI hO mdX9_isCorner mvX9_isCorner w928 (ci := 9) rfl rfl (by decide) hg1 (As := [.int _]) (st := []) (ctX9_isCorner n0 _ hg1 hO.2.2.2.2.2.2.1 _ _) (Nat.le_of_ble_eq_true rfl) rfl rfl (Nat.le_of_ble_eq_true rfl) dX11_alike_5 (fun z5 => ?_)
  refine b_if_eq hO dX11_alike_8 (tgt := 27) (by decide) ?_ ?_
  · refine b_iconst hO dX11_alike_27 ic_i_m1 ?_
    exact b_iret hO dX11_alike_28
  · refine b_aload_n hO dX11_alike_11 0 rfl rfl ?_
    refine b_getR hO flX11_19 kLX_0 (id := 1) rfl rfl (rk := 9) rfl (by decide) dX11_alike_12 (fun hg2 => ?_)
    refine b_iload_n hO dX11_alike_15 2 rfl rfl ?_
    refine b_callVI hO mdX9_isCorner mvX9_isCorner w928 (ci := 9) rfl rfl (by decide) hg2 (As := [.int _]) (st := []) (ctX9_isCorner n0 _ hg2 hO.2.2.2.2.2.2.1 _ _) (Nat.le_of_ble_eq_true rfl) rfl rfl (Nat.le_of_ble_eq_true rfl) dX11_alike_16 (fun z16 => ?_)
    refine b_if_eq hO dX11_alike_19 (tgt := 27) (by decide) ?_ ?_
    · refine b_iconst hO dX11_alike_27 ic_i_m1 ?_
      exact b_iret hO dX11_alike_28
    · refine b_iload_n hO dX11_alike_22 1 rfl rfl ?_
      refine b_iload_n hO dX11_alike_23 2 rfl rfl ?_
      refine b_icmp_ne hO dX11_alike_24 (tgt := 29) (by decide) ?_ ?_
      · refine b_aload_n hO dX11_alike_29 0 rfl rfl ?_
        refine b_iload_n hO dX11_alike_30 1 rfl rfl ?_
        refine b_aload_n hO dX11_alike_31 0 rfl rfl ?_
        refine b_get hO flX11_72 kLX_0 (v := .ref (ad 26)) rfl dX11_alike_32 ?_
        refine b_bipush hO dX11_alike_35 ic_b_60 ?_
        refine b_callVI hO mdX11_foresee mvX11_foresee w966 (ci := 11) rfl rfl (by decide) kLX_0 (As := [.int _, .ref _, .int _]) (st := []) (ctX11_foresee n0 _ kLX_26 hO.2.2.2.2.2.2.1 _ _ _) (Nat.le_of_ble_eq_true rfl) rfl rfl (Nat.le_of_ble_eq_true rfl) dX11_alike_37 (fun z37 => ?_)
        refine b_istore_n hO dX11_alike_40 rfl (by decide) (lv' := [(3, .int _), (0, .ref _), (1, .int _), (2, .int _)]) rfl ?_
        refine b_aload_n hO dX11_alike_41 1 rfl rfl ?_
        refine b_iload_n hO dX11_alike_42 3 rfl rfl ?_
        refine b_aload_n hO dX11_alike_43 1 rfl rfl ?_
        refine b_get hO flX11_76 kLX_0 (v := .ref (ad 27)) rfl dX11_alike_44 ?_
        refine b_bipush hO dX11_alike_47 ic_b_60 ?_
        refine b_callVI hO mdX11_foresee mvX11_foresee w966 (ci := 11) rfl rfl (by decide) kLX_0 (As := [.int _, .ref _, .int _]) (st := []) (ctX11_foresee n0 _ kLX_27 hO.2.2.2.2.2.2.1 _ _ _) (Nat.le_of_ble_eq_true rfl) rfl rfl (Nat.le_of_ble_eq_true rfl) dX11_alike_49 (fun z49 => ?_)
        refine b_pop hO dX11_alike_52 rfl ?_
        refine b_iconst hO dX11_alike_53 ic_i_0 ?_
        refine b_istore hO dX11_alike_54 (by decide) (lv' := [(4, .int _), (3, .int _), (0, .ref _), (1, .int _), (2, .int _)]) rfl ?_
        refine b_sub [2, 1, 0] rfl ?_
        exact tfX11_alike_56 n0 hO _ _ _
      · refine b_iconst hO dX11_alike_27 ic_i_m1 ?_
        exact b_iret hO dX11_alike_28
theorem ctX11_alike (n0 : Nat) (hI : Inj LX ad) (x1 : Int32) (x2 : Int32) (M : Mem) : CT l LX D cy ad yX11_alike cX11_alike 5 (some .int) 7 (QI LX D cy ad) [.ref (ad 0), .int x1, .int x2] M (fX11_alike n0 x1 x2 M) :=
  CT.mk LXok hI (by decide) (Nat.le_of_ble_eq_true rfl) (fun hO => tfX11_alike n0 hO x1 x2 M)
/-! X11_tellsWithin -/
def bX11_tellsWithin_3 (n0 : Nat) (k3 : Int32 → Int32 → Int32 → Mem → Option (Int32 × Mem)) (x1 : Int32) (x3 : Int32) (x4 : Int32) (M : Mem) : Option (Int32 × Mem) :=
  if x3 < x4 then
    some ((0 : Int32), M)
  else
    if oob x4 61 then none else
    if (gA M 26 (Int32.toNatClampNeg x4)) = x1 then
      some ((1 : Int32), M)
    else
      k3 x1 x3 (x4 + (1 : Int32)) M
def fX11_tellsWithin_3 (n0 : Nat) : Int32 → Int32 → Int32 → Mem → Option (Int32 × Mem) := loopN (bX11_tellsWithin_3 n0) (fun _ _ _ _ => none) n0
def fX11_tellsWithin (n0 : Nat) (x1 : Int32) (x2 : Int32) (x3 : Int32) (M : Mem) : Option (Int32 × Mem) :=
  fX11_tellsWithin_3 n0 x1 x3 x2 M
theorem tbX11_tellsWithin_3 (n0 : Nat) (hO : OKc p (rmL 1) s m args meth c LX D cy ad cX11_tellsWithin RX11 5 1 (some .boolean)) (k3 : Int32 → Int32 → Int32 → Mem → Option (Int32 × Mem)) (hk3 : ∀ (x1 : Int32) (x3 : Int32) (x4 : Int32) (M : Mem), BL p l e (rmL 1) s m args below meth c LX D cy ad 5 (QI LX D cy ad) 3 [(0, .ref (ad 0)), (1, .int x1), (3, .int x3), (4, .int x4)] [] M (k3 x1 x3 x4 M)) (x1 : Int32) (x3 : Int32) (x4 : Int32) (M : Mem) : BL p l e (rmL 1) s m args below meth c LX D cy ad 5 (QI LX D cy ad) 3 [(0, .ref (ad 0)), (1, .int x1), (3, .int x3), (4, .int x4)] [] M (bX11_tellsWithin_3 n0 k3 x1 x3 x4 M) := by
  unfold bX11_tellsWithin_3
  refine b_iload hO dX11_tellsWithin_3 3 rfl ?_
  refine b_iload_n hO dX11_tellsWithin_5 2 rfl rfl ?_
  refine b_icmp_gt hO dX11_tellsWithin_6 (tgt := 28) (by decide) ?_ ?_
  · refine b_iconst hO dX11_tellsWithin_28 ic_i_0 ?_
    exact b_zretc hO (Or.inl rfl) dX11_tellsWithin_29
  · refine b_aload_n hO dX11_tellsWithin_9 0 rfl rfl ?_
    refine b_get hO flX11_72 kLX_0 (v := .ref (ad 26)) rfl dX11_tellsWithin_10 ?_
    refine b_iload hO dX11_tellsWithin_13 3 rfl ?_
    refine b_iald hO kLX_26 (n := 61) rfl dX11_tellsWithin_15 ?_
    refine b_iload_n hO dX11_tellsWithin_16 1 rfl rfl ?_
    refine b_icmp_ne hO dX11_tellsWithin_17 (tgt := 22) (by decide) ?_ ?_
    · refine b_iinc hO dX11_tellsWithin_22 3 rfl ic_i_1 (by decide) (lv' := [(4, .int _), (0, .ref _), (1, .int _), (3, .int _)]) rfl ?_
      refine b_goto hO dX11_tellsWithin_25 (tgt := 3) (by decide) ?_
      refine b_sub [1, 2, 3, 0] rfl ?_
      exact hk3 _ _ _ _
    · refine b_iconst hO dX11_tellsWithin_20 ic_i_1 ?_
      exact b_zretc hO (Or.inr rfl) dX11_tellsWithin_21
theorem lX11_tellsWithin_3 (n0 : Nat) (hO : OKc p (rmL 1) s m args meth c LX D cy ad cX11_tellsWithin RX11 5 1 (some .boolean)) : ∀ (w : Nat) (x1 : Int32) (x3 : Int32) (x4 : Int32) (M : Mem), BL p l e (rmL 1) s m args below meth c LX D cy ad 5 (QI LX D cy ad) 3 [(0, .ref (ad 0)), (1, .int x1), (3, .int x3), (4, .int x4)] [] M (loopN (bX11_tellsWithin_3 n0) (fun _ _ _ _ => none) w x1 x3 x4 M) := by
  intro w
  induction w with
  | zero =>
    intros
    exact b_none
  | succ w ih =>
    intro x1 x3 x4 M
    exact tbX11_tellsWithin_3 n0 hO _ ih x1 x3 x4 M
theorem tfX11_tellsWithin_3 (n0 : Nat) (hO : OKc p (rmL 1) s m args meth c LX D cy ad cX11_tellsWithin RX11 5 1 (some .boolean)) (x1 : Int32) (x3 : Int32) (x4 : Int32) (M : Mem) : BL p l e (rmL 1) s m args below meth c LX D cy ad 5 (QI LX D cy ad) 3 [(0, .ref (ad 0)), (1, .int x1), (3, .int x3), (4, .int x4)] [] M (fX11_tellsWithin_3 n0 x1 x3 x4 M) := lX11_tellsWithin_3 n0 hO n0 x1 x3 x4 M
theorem tfX11_tellsWithin (n0 : Nat) (hO : OKc p (rmL 1) s m args meth c LX D cy ad cX11_tellsWithin RX11 5 1 (some .boolean)) (x1 : Int32) (x2 : Int32) (x3 : Int32) (M : Mem) : BL p l e (rmL 1) s m args below meth c LX D cy ad 5 (QI LX D cy ad) 0 [(0, .ref (ad 0)), (1, .int x1), (2, .int x2), (3, .int x3)] [] M (fX11_tellsWithin n0 x1 x2 x3 M) := by
  unfold fX11_tellsWithin
  refine b_iload_n hO dX11_tellsWithin_0 2 rfl rfl ?_
  refine b_istore hO dX11_tellsWithin_1 (by decide) (lv' := [(4, .int _), (0, .ref _), (1, .int _), (2, .int _), (3, .int _)]) rfl ?_
  refine b_sub [1, 2, 4, 0] rfl ?_
  exact tfX11_tellsWithin_3 n0 hO _ _ _ _
theorem ctX11_tellsWithin (n0 : Nat) (hI : Inj LX ad) (x1 : Int32) (x2 : Int32) (x3 : Int32) (M : Mem) : CT l LX D cy ad yX11_tellsWithin cX11_tellsWithin 5 (some .boolean) 1 (QI LX D cy ad) [.ref (ad 0), .int x1, .int x2, .int x3] M (fX11_tellsWithin n0 x1 x2 x3 M) :=
  CT.mk LXok hI (by decide) (Nat.le_of_ble_eq_true rfl) (fun hO => tfX11_tellsWithin n0 hO x1 x2 x3 M)
/-! X11_doesAll -/
def fX11_doesAll_86 (n0 : Nat) (k3 : Int32 → Int32 → Int32 → Int32 → Int32 → Mem → Option (Int32 × Mem)) (x1 : Int32) (x2 : Int32) (x3 : Int32) (x4 : Int32) (x5 : Int32) (M : Mem) : Option (Int32 × Mem) :=
  k3 x1 x2 x3 x4 (x5 + (1 : Int32)) M
def fX11_doesAll_44 (n0 : Nat) (k3 : Int32 → Int32 → Int32 → Int32 → Int32 → Mem → Option (Int32 × Mem)) (x1 : Int32) (x2 : Int32) (x3 : Int32) (x4 : Int32) (x5 : Int32) (u0 : Int32) (M : Mem) : Option (Int32 × Mem) :=
  if u0 = 0 then
    fX11_doesAll_86 n0 k3 x1 x2 x3 x4 x5 M
  else
    if oob x5 6 then none else
    if (gA M 13 (Int32.toNatClampNeg x5)) = 0 then
      if oob x5 6 then none else
      (fX11_tellsWithin n0 (gA M ((gR M 1) + 11) (Int32.toNatClampNeg x5)) x3 x4 M).bind fun z78 =>
      if z78.1 = 0 then
        some ((0 : Int32), z78.2)
      else
        fX11_doesAll_86 n0 k3 x1 x2 x3 x4 x5 z78.2
    else
      fX11_doesAll_86 n0 k3 x1 x2 x3 x4 x5 M
def fX11_doesAll_43 (n0 : Nat) (k3 : Int32 → Int32 → Int32 → Int32 → Int32 → Mem → Option (Int32 × Mem)) (x1 : Int32) (x2 : Int32) (x3 : Int32) (x4 : Int32) (x5 : Int32) (M : Mem) : Option (Int32 × Mem) :=
  fX11_doesAll_44 n0 k3 x1 x2 x3 x4 x5 (0 : Int32) M
def bX11_doesAll_3 (n0 : Nat) (k3 : Int32 → Int32 → Int32 → Int32 → Int32 → Mem → Option (Int32 × Mem)) (x1 : Int32) (x2 : Int32) (x3 : Int32) (x4 : Int32) (x5 : Int32) (M : Mem) : Option (Int32 × Mem) :=
  if (gI M (128 * (gR M 1) + 12)) ≤ x5 then
    some ((1 : Int32), M)
  else
    if ((x2 >>> (x5 &&& 31)) &&& (1 : Int32)) = (1 : Int32) then
      if oob x5 6 then none else
      if (gA M ((gR M 1) + 10) (Int32.toNatClampNeg x5)) = x1 then
        fX11_doesAll_44 n0 k3 x1 x2 x3 x4 x5 (1 : Int32) M
      else
        fX11_doesAll_43 n0 k3 x1 x2 x3 x4 x5 M
    else
      fX11_doesAll_43 n0 k3 x1 x2 x3 x4 x5 M
def fX11_doesAll_3 (n0 : Nat) : Int32 → Int32 → Int32 → Int32 → Int32 → Mem → Option (Int32 × Mem) := loopN (bX11_doesAll_3 n0) (fun _ _ _ _ _ _ => none) n0
def fX11_doesAll (n0 : Nat) (x1 : Int32) (x2 : Int32) (x3 : Int32) (x4 : Int32) (M : Mem) : Option (Int32 × Mem) :=
  fX11_doesAll_3 n0 x1 x2 x3 x4 (0 : Int32) M
theorem tfX11_doesAll_86 (n0 : Nat) (hO : OKc p (rmL 2) s m args meth c LX D cy ad cX11_doesAll RX11 7 2 (some .boolean)) (k3 : Int32 → Int32 → Int32 → Int32 → Int32 → Mem → Option (Int32 × Mem)) (hk3 : ∀ (x1 : Int32) (x2 : Int32) (x3 : Int32) (x4 : Int32) (x5 : Int32) (M : Mem), BL p l e (rmL 2) s m args below meth c LX D cy ad 7 (QI LX D cy ad) 3 [(0, .ref (ad 0)), (1, .int x1), (2, .int x2), (3, .int x3), (4, .int x4), (5, .int x5)] [] M (k3 x1 x2 x3 x4 x5 M)) (x1 : Int32) (x2 : Int32) (x3 : Int32) (x4 : Int32) (x5 : Int32) (M : Mem) : BL p l e (rmL 2) s m args below meth c LX D cy ad 7 (QI LX D cy ad) 86 [(0, .ref (ad 0)), (1, .int x1), (2, .int x2), (3, .int x3), (4, .int x4), (5, .int x5)] [] M (fX11_doesAll_86 n0 k3 x1 x2 x3 x4 x5 M) := by
  unfold fX11_doesAll_86
  refine b_iinc hO dX11_doesAll_86 5 rfl ic_i_1 (by decide) (lv' := [(5, .int _), (0, .ref _), (1, .int _), (2, .int _), (3, .int _), (4, .int _)]) rfl ?_
  refine b_goto hO dX11_doesAll_89 (tgt := 3) (by decide) ?_
  refine b_sub [1, 2, 3, 4, 5, 0] rfl ?_
  exact hk3 _ _ _ _ _ _
theorem tfX11_doesAll_44 (n0 : Nat) (hO : OKc p (rmL 2) s m args meth c LX D cy ad cX11_doesAll RX11 7 2 (some .boolean)) (k3 : Int32 → Int32 → Int32 → Int32 → Int32 → Mem → Option (Int32 × Mem)) (hk3 : ∀ (x1 : Int32) (x2 : Int32) (x3 : Int32) (x4 : Int32) (x5 : Int32) (M : Mem), BL p l e (rmL 2) s m args below meth c LX D cy ad 7 (QI LX D cy ad) 3 [(0, .ref (ad 0)), (1, .int x1), (2, .int x2), (3, .int x3), (4, .int x4), (5, .int x5)] [] M (k3 x1 x2 x3 x4 x5 M)) (x1 : Int32) (x2 : Int32) (x3 : Int32) (x4 : Int32) (x5 : Int32) (u0 : Int32) (M : Mem) : BL p l e (rmL 2) s m args below meth c LX D cy ad 7 (QI LX D cy ad) 44 [(0, .ref (ad 0)), (1, .int x1), (2, .int x2), (3, .int x3), (4, .int x4), (5, .int x5)] [.int u0] M (fX11_doesAll_44 n0 k3 x1 x2 x3 x4 x5 u0 M) := by
  unfold fX11_doesAll_44
  refine b_istore hO dX11_doesAll_44 (by decide) (lv' := [(6, .int _), (0, .ref _), (1, .int _), (2, .int _), (3, .int _), (4, .int _), (5, .int _)]) rfl ?_
  refine b_iload hO dX11_doesAll_46 0 rfl ?_
  refine b_if_eq hO dX11_doesAll_48 (tgt := 86) (by decide) ?_ ?_
  · refine b_sub [1, 2, 3, 4, 5, 6] rfl ?_
    exact tfX11_doesAll_86 n0 hO k3 hk3 _ _ _ _ _ _
  · refine b_aload_n hO dX11_doesAll_51 1 rfl rfl ?_
    refine b_get hO flX11_47 kLX_0 (v := .ref (ad 10)) rfl dX11_doesAll_52 ?_
    refine b_get hO flX11_207 kLX_10 (v := .ref (ad 13)) rfl dX11_doesAll_55 ?_
    refine b_iload hO dX11_doesAll_58 6 rfl ?_
    refine b_iald hO kLX_13 (n := 6) rfl dX11_doesAll_60 ?_
    refine b_if_ne hO dX11_doesAll_61 (tgt := 86) (by decide) ?_ ?_
    · refine b_sub [1, 2, 3, 4, 5, 6] rfl ?_
      exact tfX11_doesAll_86 n0 hO k3 hk3 _ _ _ _ _ _
    · refine b_aload_n hO dX11_doesAll_64 1 rfl rfl ?_
      refine b_aload_n hO dX11_doesAll_65 1 rfl rfl ?_
      refine b_getR hO flX11_19 kLX_0 (id := 1) rfl rfl (rk := 9) rfl (by decide) dX11_doesAll_66 (fun hg1 => ?_)
      refine b_get hO flX11_204 hg1 (v := .ref (ad ((gR M 1) + 11))) rfl dX11_doesAll_69 ?_
      refine b_iload hO dX11_doesAll_72 6 rfl ?_
      refine b_iald hO (kt_9_11 hg1) (n := 6) (lt_9_11 hg1) dX11_doesAll_74 ?_
      refine b_iload_n hO dX11_doesAll_75 4 rfl rfl ?_
      refine b_iload hO dX11_doesAll_76 5 rfl ?_
      refine b_callVI hO mdX11_tellsWithin mvX11_tellsWithin w1003 (ci := 11) rfl rfl (by decide) kLX_0 (As := [.int _, .int _, .int _]) (st := []) (ctX11_tellsWithin n0 hO.2.2.2.2.2.2.1 _ _ _ _) (Nat.le_of_ble_eq_true rfl) rfl rfl (Nat.le_of_ble_eq_true rfl) dX11_doesAll_78 (fun z78 => ?_)
      refine b_if_ne hO dX11_doesAll_81 (tgt := 86) (by decide) ?_ ?_
      · refine b_sub [1, 2, 3, 4, 5, 6] rfl ?_
        exact tfX11_doesAll_86 n0 hO k3 hk3 _ _ _ _ _ _
      · refine b_iconst hO dX11_doesAll_84 ic_i_0 ?_
        exact b_zretc hO (Or.inl rfl) dX11_doesAll_85
theorem tfX11_doesAll_43 (n0 : Nat) (hO : OKc p (rmL 2) s m args meth c LX D cy ad cX11_doesAll RX11 7 2 (some .boolean)) (k3 : Int32 → Int32 → Int32 → Int32 → Int32 → Mem → Option (Int32 × Mem)) (hk3 : ∀ (x1 : Int32) (x2 : Int32) (x3 : Int32) (x4 : Int32) (x5 : Int32) (M : Mem), BL p l e (rmL 2) s m args below meth c LX D cy ad 7 (QI LX D cy ad) 3 [(0, .ref (ad 0)), (1, .int x1), (2, .int x2), (3, .int x3), (4, .int x4), (5, .int x5)] [] M (k3 x1 x2 x3 x4 x5 M)) (x1 : Int32) (x2 : Int32) (x3 : Int32) (x4 : Int32) (x5 : Int32) (M : Mem) : BL p l e (rmL 2) s m args below meth c LX D cy ad 7 (QI LX D cy ad) 43 [(0, .ref (ad 0)), (1, .int x1), (2, .int x2), (3, .int x3), (4, .int x4), (5, .int x5)] [] M (fX11_doesAll_43 n0 k3 x1 x2 x3 x4 x5 M) := by
  unfold fX11_doesAll_43
  refine b_iconst hO dX11_doesAll_43 ic_i_0 ?_
  exact tfX11_doesAll_44 n0 hO k3 hk3 _ _ _ _ _ _ _
theorem tbX11_doesAll_3 (n0 : Nat) (hO : OKc p (rmL 2) s m args meth c LX D cy ad cX11_doesAll RX11 7 2 (some .boolean)) (k3 : Int32 → Int32 → Int32 → Int32 → Int32 → Mem → Option (Int32 × Mem)) (hk3 : ∀ (x1 : Int32) (x2 : Int32) (x3 : Int32) (x4 : Int32) (x5 : Int32) (M : Mem), BL p l e (rmL 2) s m args below meth c LX D cy ad 7 (QI LX D cy ad) 3 [(0, .ref (ad 0)), (1, .int x1), (2, .int x2), (3, .int x3), (4, .int x4), (5, .int x5)] [] M (k3 x1 x2 x3 x4 x5 M)) (x1 : Int32) (x2 : Int32) (x3 : Int32) (x4 : Int32) (x5 : Int32) (M : Mem) : BL p l e (rmL 2) s m args below meth c LX D cy ad 7 (QI LX D cy ad) 3 [(0, .ref (ad 0)), (1, .int x1), (2, .int x2), (3, .int x3), (4, .int x4), (5, .int x5)] [] M (bX11_doesAll_3 n0 k3 x1 x2 x3 x4 x5 M) := by
  unfold bX11_doesAll_3
  refine b_iload hO dX11_doesAll_3 5 rfl ?_
  refine b_aload_n hO dX11_doesAll_5 0 rfl rfl ?_
  refine b_getR hO flX11_19 kLX_0 (id := 1) rfl rfl (rk := 9) rfl (by decide) dX11_doesAll_6 (fun hg1 => ?_)
  refine b_get hO flX11_145 hg1 (v := .int (gI _ (128 * (gR M 1) + 12))) rfl dX11_doesAll_9 ?_
  refine b_icmp_ge hO dX11_doesAll_12 (tgt := 92) (by decide) ?_ ?_
  · refine b_iconst hO dX11_doesAll_92 ic_i_1 ?_
    exact b_zretc hO (Or.inr rfl) dX11_doesAll_93
  · refine b_iload_n hO dX11_doesAll_15 2 rfl rfl ?_
    refine b_iload hO dX11_doesAll_16 5 rfl ?_
    refine b_ishr hO dX11_doesAll_18 ?_
    refine b_iconst hO dX11_doesAll_19 ic_i_1 ?_
    refine b_iand hO dX11_doesAll_20 ?_
    refine b_iconst hO dX11_doesAll_21 ic_i_1 ?_
    refine b_icmp_ne hO dX11_doesAll_22 (tgt := 43) (by decide) ?_ ?_
    · exact tfX11_doesAll_43 n0 hO k3 hk3 _ _ _ _ _ _
    · refine b_aload_n hO dX11_doesAll_25 0 rfl rfl ?_
      refine b_getR hO flX11_19 kLX_0 (id := 1) rfl rfl (rk := 9) rfl (by decide) dX11_doesAll_26 (fun hg2 => ?_)
      refine b_get hO flX11_201 hg2 (v := .ref (ad ((gR M 1) + 10))) rfl dX11_doesAll_29 ?_
      refine b_iload hO dX11_doesAll_32 5 rfl ?_
      refine b_iald hO (kt_9_10 hg2) (n := 6) (lt_9_10 hg2) dX11_doesAll_34 ?_
      refine b_iload_n hO dX11_doesAll_35 1 rfl rfl ?_
      refine b_icmp_ne hO dX11_doesAll_36 (tgt := 43) (by decide) ?_ ?_
      · exact tfX11_doesAll_43 n0 hO k3 hk3 _ _ _ _ _ _
      · refine b_iconst hO dX11_doesAll_39 ic_i_1 ?_
        refine b_goto hO dX11_doesAll_40 (tgt := 44) (by decide) ?_
        exact tfX11_doesAll_44 n0 hO k3 hk3 _ _ _ _ _ _ _
theorem lX11_doesAll_3 (n0 : Nat) (hO : OKc p (rmL 2) s m args meth c LX D cy ad cX11_doesAll RX11 7 2 (some .boolean)) : ∀ (w : Nat) (x1 : Int32) (x2 : Int32) (x3 : Int32) (x4 : Int32) (x5 : Int32) (M : Mem), BL p l e (rmL 2) s m args below meth c LX D cy ad 7 (QI LX D cy ad) 3 [(0, .ref (ad 0)), (1, .int x1), (2, .int x2), (3, .int x3), (4, .int x4), (5, .int x5)] [] M (loopN (bX11_doesAll_3 n0) (fun _ _ _ _ _ _ => none) w x1 x2 x3 x4 x5 M) := by
  intro w
  induction w with
  | zero =>
    intros
    exact b_none
  | succ w ih =>
    intro x1 x2 x3 x4 x5 M
    exact tbX11_doesAll_3 n0 hO _ ih x1 x2 x3 x4 x5 M
theorem tfX11_doesAll_3 (n0 : Nat) (hO : OKc p (rmL 2) s m args meth c LX D cy ad cX11_doesAll RX11 7 2 (some .boolean)) (x1 : Int32) (x2 : Int32) (x3 : Int32) (x4 : Int32) (x5 : Int32) (M : Mem) : BL p l e (rmL 2) s m args below meth c LX D cy ad 7 (QI LX D cy ad) 3 [(0, .ref (ad 0)), (1, .int x1), (2, .int x2), (3, .int x3), (4, .int x4), (5, .int x5)] [] M (fX11_doesAll_3 n0 x1 x2 x3 x4 x5 M) := lX11_doesAll_3 n0 hO n0 x1 x2 x3 x4 x5 M
theorem tfX11_doesAll (n0 : Nat) (hO : OKc p (rmL 2) s m args meth c LX D cy ad cX11_doesAll RX11 7 2 (some .boolean)) (x1 : Int32) (x2 : Int32) (x3 : Int32) (x4 : Int32) (M : Mem) : BL p l e (rmL 2) s m args below meth c LX D cy ad 7 (QI LX D cy ad) 0 [(0, .ref (ad 0)), (1, .int x1), (2, .int x2), (3, .int x3), (4, .int x4)] [] M (fX11_doesAll n0 x1 x2 x3 x4 M) := by
  unfold fX11_doesAll
  refine b_iconst hO dX11_doesAll_0 ic_i_0 ?_
  refine b_istore hO dX11_doesAll_1 (by decide) (lv' := [(5, .int _), (0, .ref _), (1, .int _), (2, .int _), (3, .int _), (4, .int _)]) rfl ?_
  refine b_sub [1, 2, 3, 4, 5, 0] rfl ?_
  exact tfX11_doesAll_3 n0 hO _ _ _ _ _ _
theorem ctX11_doesAll (n0 : Nat) (hI : Inj LX ad) (x1 : Int32) (x2 : Int32) (x3 : Int32) (x4 : Int32) (M : Mem) : CT l LX D cy ad yX11_doesAll cX11_doesAll 7 (some .boolean) 2 (QI LX D cy ad) [.ref (ad 0), .int x1, .int x2, .int x3, .int x4] M (fX11_doesAll n0 x1 x2 x3 x4 M) :=
  CT.mk LXok hI (by decide) (Nat.le_of_ble_eq_true rfl) (fun hO => tfX11_doesAll n0 hO x1 x2 x3 x4 M)
/-! X11_doesWithout -/
def fX11_doesWithout (n0 : Nat) (x1 : Int32) (x2 : Int32) (x3 : Int32) (x4 : Int32) (M : Mem) : Option (Int32 × Mem) :=
  (fX11_lookAt n0 x1 M).bind fun z2 =>
  (fX1_foresee n0 26 x4 z2).bind fun z19 =>
  (fX11_doesAll n0 x1 x2 x3 z19.1 z19.2).bind fun z22 =>
  if z22.1 = 0 ∨ z22.1 = 1 then some (z22.1, z22.2) else none
theorem tfX11_doesWithout (n0 : Nat) (hO : OKc p (rmL 6) s m args meth c LX D cy ad cX11_doesWithout RX11 5 6 (some .boolean)) (x1 : Int32) (x2 : Int32) (x3 : Int32) (x4 : Int32) (M : Mem) : BL p l e (rmL 6) s m args below meth c LX D cy ad 5 (QI LX D cy ad) 0 [(0, .ref (ad 0)), (1, .int x1), (2, .int x2), (3, .int x3), (4, .int x4)] [] M (fX11_doesWithout n0 x1 x2 x3 x4 M) := by
  unfold fX11_doesWithout
  refine b_aload_n hO dX11_doesWithout_0 0 rfl rfl ?_
  refine b_iload_n hO dX11_doesWithout_1 1 rfl rfl ?_
  refine b_callVV hO mdX11_lookAt mvX11_lookAt w948 (ci := 11) rfl rfl (by decide) kLX_0 (As := [.int _]) (st := []) (ctX11_lookAt n0 hO.2.2.2.2.2.2.1 _ _) (Nat.le_of_ble_eq_true rfl) rfl rfl (Nat.le_of_ble_eq_true rfl) dX11_doesWithout_2 (fun z2 => ?_)
  refine b_aload_n hO dX11_doesWithout_5 0 rfl rfl ?_
  refine b_iload_n hO dX11_doesWithout_6 1 rfl rfl ?_
  refine b_iload_n hO dX11_doesWithout_7 2 rfl rfl ?_
  refine b_iload_n hO dX11_doesWithout_8 3 rfl rfl ?_
  refine b_aload_n hO dX11_doesWithout_9 0 rfl rfl ?_
  refine b_get hO flX11_40 kLX_0 (v := .ref (ad 7)) rfl dX11_doesWithout_10 ?_
  refine b_aload_n hO dX11_doesWithout_13 0 rfl rfl ?_
  refine b_get hO flX11_72 kLX_0 (v := .ref (ad 26)) rfl dX11_doesWithout_14 ?_
  refine b_iload hO dX11_doesWithout_17 4 rfl ?_
  refine b_callVI hO mdX1_foresee mvX1_foresee w970 (ci := 1) rfl rfl (by decide) kLX_7 (As := [.ref _, .int _]) (st := [.int _, .int _, .int _, .ref _]) (ctX1_foresee n0 _ kLX_26 hO.2.2.2.2.2.2.1 _ _) (Nat.le_of_ble_eq_true rfl) rfl rfl (Nat.le_of_ble_eq_true rfl) dX11_doesWithout_19 (fun z19 => ?_)
  refine b_callVI hO mdX11_doesAll mvX11_doesAll w999 (ci := 11) rfl rfl (by decide) kLX_0 (As := [.int _, .int _, .int _, .int _]) (st := []) (ctX11_doesAll n0 hO.2.2.2.2.2.2.1 _ _ _ _ _) (Nat.le_of_ble_eq_true rfl) rfl rfl (Nat.le_of_ble_eq_true rfl) dX11_doesWithout_22 (fun z22 => ?_)
  exact b_zret hO dX11_doesWithout_25
theorem ctX11_doesWithout (n0 : Nat) (hI : Inj LX ad) (x1 : Int32) (x2 : Int32) (x3 : Int32) (x4 : Int32) (M : Mem) : CT l LX D cy ad yX11_doesWithout cX11_doesWithout 5 (some .boolean) 6 (QI LX D cy ad) [.ref (ad 0), .int x1, .int x2, .int x3, .int x4] M (fX11_doesWithout n0 x1 x2 x3 x4 M) :=
  CT.mk LXok hI (by decide) (Nat.le_of_ble_eq_true rfl) (fun hO => tfX11_doesWithout n0 hO x1 x2 x3 x4 M)
/-! X11_planNothing -/
def bX11_planNothing_28 (n0 : Nat) (k28 : Int32 → Int32 → Int32 → Mem → Option (Int32 × Mem)) (x1 : Int32) (x2 : Int32) (x3 : Int32) (M : Mem) : Option (Int32 × Mem) :=
  if (gI M (128 * (gR M 1) + 5)) ≤ x3 then
    some ((1 : Int32), M)
  else
    (fX11_doesWithout n0 x3 x1 (1 : Int32) x2 M).bind fun z44 =>
    if z44.1 = 0 then
      some ((0 : Int32), z44.2)
    else
      k28 x1 x2 (x3 + (1 : Int32)) z44.2
def fX11_planNothing_28 (n0 : Nat) : Int32 → Int32 → Int32 → Mem → Option (Int32 × Mem) := loopN (bX11_planNothing_28 n0) (fun _ _ _ _ => none) n0
def bX11_planNothing_2 (n0 : Nat) (k2 : Int32 → Int32 → Int32 → Mem → Option (Int32 × Mem)) (x1 : Int32) (x2 : Int32) (x3 : Int32) (M : Mem) : Option (Int32 × Mem) :=
  if (gI M (128 * (gR M 1) + 5)) ≤ x3 then
    fX11_planNothing_28 n0 x1 x2 (0 : Int32) M
  else
    if oob x3 5 then none else
    bnd (sA M 28 (Int32.toNatClampNeg x3) (-1 : Int32)) fun M19 =>
    k2 x1 x2 (x3 + (1 : Int32)) M19
def fX11_planNothing_2 (n0 : Nat) : Int32 → Int32 → Int32 → Mem → Option (Int32 × Mem) := loopN (bX11_planNothing_2 n0) (fun _ _ _ _ => none) n0
def fX11_planNothing (n0 : Nat) (x1 : Int32) (x2 : Int32) (M : Mem) : Option (Int32 × Mem) :=
  fX11_planNothing_2 n0 x1 x2 (0 : Int32) M
theorem tbX11_planNothing_28 (n0 : Nat) (hO : OKc p (rmL 7) s m args meth c LX D cy ad cX11_planNothing RX11 4 7 (some .boolean)) (k28 : Int32 → Int32 → Int32 → Mem → Option (Int32 × Mem)) (hk28 : ∀ (x1 : Int32) (x2 : Int32) (x3 : Int32) (M : Mem), BL p l e (rmL 7) s m args below meth c LX D cy ad 4 (QI LX D cy ad) 28 [(0, .ref (ad 0)), (1, .int x1), (2, .int x2), (3, .int x3)] [] M (k28 x1 x2 x3 M)) (x1 : Int32) (x2 : Int32) (x3 : Int32) (M : Mem) : BL p l e (rmL 7) s m args below meth c LX D cy ad 4 (QI LX D cy ad) 28 [(0, .ref (ad 0)), (1, .int x1), (2, .int x2), (3, .int x3)] [] M (bX11_planNothing_28 n0 k28 x1 x2 x3 M) := by
  unfold bX11_planNothing_28
  refine b_iload_n hO dX11_planNothing_28 3 rfl rfl ?_
  refine b_aload_n hO dX11_planNothing_29 0 rfl rfl ?_
  refine b_getR hO flX11_19 kLX_0 (id := 1) rfl rfl (rk := 9) rfl (by decide) dX11_planNothing_30 (fun hg1 => ?_)
  refine b_get hO flX11_139 hg1 (v := .int (gI _ (128 * (gR M 1) + 5))) rfl dX11_planNothing_33 ?_
  refine b_icmp_ge hO dX11_planNothing_36 (tgt := 58) (by decide) ?_ ?_
  · refine b_iconst hO dX11_planNothing_58 ic_i_1 ?_
    exact b_zretc hO (Or.inr rfl) dX11_planNothing_59
  · refine b_aload_n hO dX11_planNothing_39 0 rfl rfl ?_
    refine b_iload_n hO dX11_planNothing_40 3 rfl rfl ?_
    refine b_iload_n hO dX11_planNothing_41 1 rfl rfl ?_
    refine b_iconst hO dX11_planNothing_42 ic_i_1 ?_
    refine b_iload_n hO dX11_planNothing_43 2 rfl rfl ?_
    refine b_callVI hO mdX11_doesWithout mvX11_doesWithout w995 (ci := 11) rfl rfl (by decide) kLX_0 (As := [.int _, .int _, .int _, .int _]) (st := []) (ctX11_doesWithout n0 hO.2.2.2.2.2.2.1 _ _ _ _ _) (Nat.le_of_ble_eq_true rfl) rfl rfl (Nat.le_of_ble_eq_true rfl) dX11_planNothing_44 (fun z44 => ?_)
    refine b_if_ne hO dX11_planNothing_47 (tgt := 52) (by decide) ?_ ?_
    · refine b_iinc hO dX11_planNothing_52 3 rfl ic_i_1 (by decide) (lv' := [(3, .int _), (0, .ref _), (1, .int _), (2, .int _)]) rfl ?_
      refine b_goto hO dX11_planNothing_55 (tgt := 28) (by decide) ?_
      refine b_sub [1, 2, 3, 0] rfl ?_
      exact hk28 _ _ _ _
    · refine b_iconst hO dX11_planNothing_50 ic_i_0 ?_
      exact b_zretc hO (Or.inl rfl) dX11_planNothing_51
theorem lX11_planNothing_28 (n0 : Nat) (hO : OKc p (rmL 7) s m args meth c LX D cy ad cX11_planNothing RX11 4 7 (some .boolean)) : ∀ (w : Nat) (x1 : Int32) (x2 : Int32) (x3 : Int32) (M : Mem), BL p l e (rmL 7) s m args below meth c LX D cy ad 4 (QI LX D cy ad) 28 [(0, .ref (ad 0)), (1, .int x1), (2, .int x2), (3, .int x3)] [] M (loopN (bX11_planNothing_28 n0) (fun _ _ _ _ => none) w x1 x2 x3 M) := by
  intro w
  induction w with
  | zero =>
    intros
    exact b_none
  | succ w ih =>
    intro x1 x2 x3 M
    exact tbX11_planNothing_28 n0 hO _ ih x1 x2 x3 M
theorem tfX11_planNothing_28 (n0 : Nat) (hO : OKc p (rmL 7) s m args meth c LX D cy ad cX11_planNothing RX11 4 7 (some .boolean)) (x1 : Int32) (x2 : Int32) (x3 : Int32) (M : Mem) : BL p l e (rmL 7) s m args below meth c LX D cy ad 4 (QI LX D cy ad) 28 [(0, .ref (ad 0)), (1, .int x1), (2, .int x2), (3, .int x3)] [] M (fX11_planNothing_28 n0 x1 x2 x3 M) := lX11_planNothing_28 n0 hO n0 x1 x2 x3 M
theorem tbX11_planNothing_2 (n0 : Nat) (hO : OKc p (rmL 7) s m args meth c LX D cy ad cX11_planNothing RX11 4 7 (some .boolean)) (k2 : Int32 → Int32 → Int32 → Mem → Option (Int32 × Mem)) (hk2 : ∀ (x1 : Int32) (x2 : Int32) (x3 : Int32) (M : Mem), BL p l e (rmL 7) s m args below meth c LX D cy ad 4 (QI LX D cy ad) 2 [(0, .ref (ad 0)), (1, .int x1), (2, .int x2), (3, .int x3)] [] M (k2 x1 x2 x3 M)) (x1 : Int32) (x2 : Int32) (x3 : Int32) (M : Mem) : BL p l e (rmL 7) s m args below meth c LX D cy ad 4 (QI LX D cy ad) 2 [(0, .ref (ad 0)), (1, .int x1), (2, .int x2), (3, .int x3)] [] M (bX11_planNothing_2 n0 k2 x1 x2 x3 M) := by
  unfold bX11_planNothing_2
  refine b_iload_n hO dX11_planNothing_2 3 rfl rfl ?_
  refine b_aload_n hO dX11_planNothing_3 0 rfl rfl ?_
  refine b_getR hO flX11_19 kLX_0 (id := 1) rfl rfl (rk := 9) rfl (by decide) dX11_planNothing_4 (fun hg1 => ?_)
  refine b_get hO flX11_139 hg1 (v := .int (gI _ (128 * (gR M 1) + 5))) rfl dX11_planNothing_7 ?_
  refine b_icmp_ge hO dX11_planNothing_10 (tgt := 26) (by decide) ?_ ?_
  · refine b_iconst hO dX11_planNothing_26 ic_i_0 ?_
    refine b_istore_n hO dX11_planNothing_27 rfl (by decide) (lv' := [(3, .int _), (0, .ref _), (1, .int _), (2, .int _)]) rfl ?_
    refine b_sub [1, 2, 3, 0] rfl ?_
    exact tfX11_planNothing_28 n0 hO _ _ _ _
  · refine b_aload_n hO dX11_planNothing_13 0 rfl rfl ?_
    refine b_get hO flX11_79 kLX_0 (v := .ref (ad 28)) rfl dX11_planNothing_14 ?_
    refine b_iload_n hO dX11_planNothing_17 3 rfl rfl ?_
    refine b_iconst hO dX11_planNothing_18 ic_i_m1 ?_
    refine b_iast hO kLX_28 (n := 5) rfl dX11_planNothing_19 ?_
    refine b_bnd (fun M19 => ?_)
    refine b_iinc hO dX11_planNothing_20 3 rfl ic_i_1 (by decide) (lv' := [(3, .int _), (0, .ref _), (1, .int _), (2, .int _)]) rfl ?_
    refine b_goto hO dX11_planNothing_23 (tgt := 2) (by decide) ?_
    refine b_sub [1, 2, 3, 0] rfl ?_
    exact hk2 _ _ _ _
theorem lX11_planNothing_2 (n0 : Nat) (hO : OKc p (rmL 7) s m args meth c LX D cy ad cX11_planNothing RX11 4 7 (some .boolean)) : ∀ (w : Nat) (x1 : Int32) (x2 : Int32) (x3 : Int32) (M : Mem), BL p l e (rmL 7) s m args below meth c LX D cy ad 4 (QI LX D cy ad) 2 [(0, .ref (ad 0)), (1, .int x1), (2, .int x2), (3, .int x3)] [] M (loopN (bX11_planNothing_2 n0) (fun _ _ _ _ => none) w x1 x2 x3 M) := by
  intro w
  induction w with
  | zero =>
    intros
    exact b_none
  | succ w ih =>
    intro x1 x2 x3 M
    exact tbX11_planNothing_2 n0 hO _ ih x1 x2 x3 M
theorem tfX11_planNothing_2 (n0 : Nat) (hO : OKc p (rmL 7) s m args meth c LX D cy ad cX11_planNothing RX11 4 7 (some .boolean)) (x1 : Int32) (x2 : Int32) (x3 : Int32) (M : Mem) : BL p l e (rmL 7) s m args below meth c LX D cy ad 4 (QI LX D cy ad) 2 [(0, .ref (ad 0)), (1, .int x1), (2, .int x2), (3, .int x3)] [] M (fX11_planNothing_2 n0 x1 x2 x3 M) := lX11_planNothing_2 n0 hO n0 x1 x2 x3 M
theorem tfX11_planNothing (n0 : Nat) (hO : OKc p (rmL 7) s m args meth c LX D cy ad cX11_planNothing RX11 4 7 (some .boolean)) (x1 : Int32) (x2 : Int32) (M : Mem) : BL p l e (rmL 7) s m args below meth c LX D cy ad 4 (QI LX D cy ad) 0 [(0, .ref (ad 0)), (1, .int x1), (2, .int x2)] [] M (fX11_planNothing n0 x1 x2 M) := by
  unfold fX11_planNothing
  refine b_iconst hO dX11_planNothing_0 ic_i_0 ?_
  refine b_istore_n hO dX11_planNothing_1 rfl (by decide) (lv' := [(3, .int _), (0, .ref _), (1, .int _), (2, .int _)]) rfl ?_
  refine b_sub [1, 2, 3, 0] rfl ?_
  exact tfX11_planNothing_2 n0 hO _ _ _ _
theorem ctX11_planNothing (n0 : Nat) (hI : Inj LX ad) (x1 : Int32) (x2 : Int32) (M : Mem) : CT l LX D cy ad yX11_planNothing cX11_planNothing 4 (some .boolean) 7 (QI LX D cy ad) [.ref (ad 0), .int x1, .int x2] M (fX11_planNothing n0 x1 x2 M) :=
  CT.mk LXok hI (by decide) (Nat.le_of_ble_eq_true rfl) (fun hO => tfX11_planNothing n0 hO x1 x2 M)
/-! X11_findGiving -/
def bX11_findGiving_3 (n0 : Nat) (k3 : Int32 → Int32 → Int32 → Int32 → Mem → Option (Int32 × Mem)) (x1 : Int32) (x2 : Int32) (x3 : Int32) (x4 : Int32) (M : Mem) : Option (Int32 × Mem) :=
  if (gI M (128 * (gR M 1) + 1)) ≤ x4 then
    some ((-1 : Int32), M)
  else
    (fX1_hold n0 x1 x4 (0 : Int32) (gI M 1281) M).bind fun z30 =>
    (fX1_foresee n0 26 x3 z30).bind fun z46 =>
    (fX11_doesAll n0 x1 x2 (0 : Int32) z46.1 z46.2).bind fun z49 =>
    if z49.1 = 0 then
      k3 x1 x2 x3 (x4 + (1 : Int32)) z49.2
    else
      some (x4, z49.2)
def fX11_findGiving_3 (n0 : Nat) : Int32 → Int32 → Int32 → Int32 → Mem → Option (Int32 × Mem) := loopN (bX11_findGiving_3 n0) (fun _ _ _ _ _ => none) n0
def fX11_findGiving (n0 : Nat) (x1 : Int32) (x2 : Int32) (x3 : Int32) (M : Mem) : Option (Int32 × Mem) :=
  fX11_findGiving_3 n0 x1 x2 x3 (0 : Int32) M
theorem tbX11_findGiving_3 (n0 : Nat) (hO : OKc p (rmL 6) s m args meth c LX D cy ad cX11_findGiving RX11 5 6 (some .int)) (k3 : Int32 → Int32 → Int32 → Int32 → Mem → Option (Int32 × Mem)) (hk3 : ∀ (x1 : Int32) (x2 : Int32) (x3 : Int32) (x4 : Int32) (M : Mem), BL p l e (rmL 6) s m args below meth c LX D cy ad 5 (QI LX D cy ad) 3 [(0, .ref (ad 0)), (1, .int x1), (2, .int x2), (3, .int x3), (4, .int x4)] [] M (k3 x1 x2 x3 x4 M)) (x1 : Int32) (x2 : Int32) (x3 : Int32) (x4 : Int32) (M : Mem) : BL p l e (rmL 6) s m args below meth c LX D cy ad 5 (QI LX D cy ad) 3 [(0, .ref (ad 0)), (1, .int x1), (2, .int x2), (3, .int x3), (4, .int x4)] [] M (bX11_findGiving_3 n0 k3 x1 x2 x3 x4 M) := by
  unfold bX11_findGiving_3
  refine b_iload hO dX11_findGiving_3 4 rfl ?_
  refine b_aload_n hO dX11_findGiving_5 0 rfl rfl ?_
  refine b_getR hO flX11_19 kLX_0 (id := 1) rfl rfl (rk := 9) rfl (by decide) dX11_findGiving_6 (fun hg1 => ?_)
  refine b_get hO flX11_136 hg1 (v := .int (gI _ (128 * (gR M 1) + 1))) rfl dX11_findGiving_9 ?_
  refine b_icmp_ge hO dX11_findGiving_12 (tgt := 64) (by decide) ?_ ?_
  · refine b_iconst hO dX11_findGiving_64 ic_i_m1 ?_
    exact b_iret hO dX11_findGiving_65
  · refine b_aload_n hO dX11_findGiving_15 0 rfl rfl ?_
    refine b_get hO flX11_40 kLX_0 (v := .ref (ad 7)) rfl dX11_findGiving_16 ?_
    refine b_iload_n hO dX11_findGiving_19 1 rfl rfl ?_
    refine b_iload hO dX11_findGiving_20 4 rfl ?_
    refine b_iconst hO dX11_findGiving_22 ic_i_0 ?_
    refine b_aload_n hO dX11_findGiving_23 0 rfl rfl ?_
    refine b_get hO flX11_47 kLX_0 (v := .ref (ad 10)) rfl dX11_findGiving_24 ?_
    refine b_get hO flX11_148 kLX_10 (v := .int (gI _ 1281)) rfl dX11_findGiving_27 ?_
    refine b_callVV hO mdX1_hold mvX1_hold w952 (ci := 1) rfl rfl (by decide) kLX_7 (As := [.int _, .int _, .int _, .int _]) (st := []) (ctX1_hold n0 hO.2.2.2.2.2.2.1 _ _ _ _ _) (Nat.le_of_ble_eq_true rfl) rfl rfl (Nat.le_of_ble_eq_true rfl) dX11_findGiving_30 (fun z30 => ?_)
    refine b_aload_n hO dX11_findGiving_33 0 rfl rfl ?_
    refine b_iload_n hO dX11_findGiving_34 1 rfl rfl ?_
    refine b_iload_n hO dX11_findGiving_35 2 rfl rfl ?_
    refine b_iconst hO dX11_findGiving_36 ic_i_0 ?_
    refine b_aload_n hO dX11_findGiving_37 0 rfl rfl ?_
    refine b_get hO flX11_40 kLX_0 (v := .ref (ad 7)) rfl dX11_findGiving_38 ?_
    refine b_aload_n hO dX11_findGiving_41 0 rfl rfl ?_
    refine b_get hO flX11_72 kLX_0 (v := .ref (ad 26)) rfl dX11_findGiving_42 ?_
    refine b_iload_n hO dX11_findGiving_45 3 rfl rfl ?_
    refine b_callVI hO mdX1_foresee mvX1_foresee w970 (ci := 1) rfl rfl (by decide) kLX_7 (As := [.ref _, .int _]) (st := [.int _, .int _, .int _, .ref _]) (ctX1_foresee n0 _ kLX_26 hO.2.2.2.2.2.2.1 _ _) (Nat.le_of_ble_eq_true rfl) rfl rfl (Nat.le_of_ble_eq_true rfl) dX11_findGiving_46 (fun z46 => ?_)
    refine b_callVI hO mdX11_doesAll mvX11_doesAll w999 (ci := 11) rfl rfl (by decide) kLX_0 (As := [.int _, .int _, .int _, .int _]) (st := []) (ctX11_doesAll n0 hO.2.2.2.2.2.2.1 _ _ _ _ _) (Nat.le_of_ble_eq_true rfl) rfl rfl (Nat.le_of_ble_eq_true rfl) dX11_findGiving_49 (fun z49 => ?_)
    refine b_if_eq hO dX11_findGiving_52 (tgt := 58) (by decide) ?_ ?_
    · refine b_iinc hO dX11_findGiving_58 4 rfl ic_i_1 (by decide) (lv' := [(4, .int _), (0, .ref _), (1, .int _), (2, .int _), (3, .int _)]) rfl ?_
      refine b_goto hO dX11_findGiving_61 (tgt := 3) (by decide) ?_
      refine b_sub [1, 2, 3, 4, 0] rfl ?_
      exact hk3 _ _ _ _ _
    · refine b_iload hO dX11_findGiving_55 4 rfl ?_
      exact b_iret hO dX11_findGiving_57
theorem lX11_findGiving_3 (n0 : Nat) (hO : OKc p (rmL 6) s m args meth c LX D cy ad cX11_findGiving RX11 5 6 (some .int)) : ∀ (w : Nat) (x1 : Int32) (x2 : Int32) (x3 : Int32) (x4 : Int32) (M : Mem), BL p l e (rmL 6) s m args below meth c LX D cy ad 5 (QI LX D cy ad) 3 [(0, .ref (ad 0)), (1, .int x1), (2, .int x2), (3, .int x3), (4, .int x4)] [] M (loopN (bX11_findGiving_3 n0) (fun _ _ _ _ _ => none) w x1 x2 x3 x4 M) := by
  intro w
  induction w with
  | zero =>
    intros
    exact b_none
  | succ w ih =>
    intro x1 x2 x3 x4 M
    exact tbX11_findGiving_3 n0 hO _ ih x1 x2 x3 x4 M
theorem tfX11_findGiving_3 (n0 : Nat) (hO : OKc p (rmL 6) s m args meth c LX D cy ad cX11_findGiving RX11 5 6 (some .int)) (x1 : Int32) (x2 : Int32) (x3 : Int32) (x4 : Int32) (M : Mem) : BL p l e (rmL 6) s m args below meth c LX D cy ad 5 (QI LX D cy ad) 3 [(0, .ref (ad 0)), (1, .int x1), (2, .int x2), (3, .int x3), (4, .int x4)] [] M (fX11_findGiving_3 n0 x1 x2 x3 x4 M) := lX11_findGiving_3 n0 hO n0 x1 x2 x3 x4 M
theorem tfX11_findGiving (n0 : Nat) (hO : OKc p (rmL 6) s m args meth c LX D cy ad cX11_findGiving RX11 5 6 (some .int)) (x1 : Int32) (x2 : Int32) (x3 : Int32) (M : Mem) : BL p l e (rmL 6) s m args below meth c LX D cy ad 5 (QI LX D cy ad) 0 [(0, .ref (ad 0)), (1, .int x1), (2, .int x2), (3, .int x3)] [] M (fX11_findGiving n0 x1 x2 x3 M) := by
  unfold fX11_findGiving
  refine b_iconst hO dX11_findGiving_0 ic_i_0 ?_
  refine b_istore hO dX11_findGiving_1 (by decide) (lv' := [(4, .int _), (0, .ref _), (1, .int _), (2, .int _), (3, .int _)]) rfl ?_
  refine b_sub [1, 2, 3, 4, 0] rfl ?_
  exact tfX11_findGiving_3 n0 hO _ _ _ _ _
theorem ctX11_findGiving (n0 : Nat) (hI : Inj LX ad) (x1 : Int32) (x2 : Int32) (x3 : Int32) (M : Mem) : CT l LX D cy ad yX11_findGiving cX11_findGiving 5 (some .int) 6 (QI LX D cy ad) [.ref (ad 0), .int x1, .int x2, .int x3] M (fX11_findGiving n0 x1 x2 x3 M) :=
  CT.mk LXok hI (by decide) (Nat.le_of_ble_eq_true rfl) (fun hO => tfX11_findGiving n0 hO x1 x2 x3 M)
/-! X11_planNeeded -/
def fX11_planNeeded_49 (n0 : Nat) (k2 : Int32 → Int32 → Int32 → Mem → Option (Int32 × Mem)) (x1 : Int32) (x2 : Int32) (x3 : Int32) (M : Mem) : Option (Int32 × Mem) :=
  k2 x1 x2 (x3 + (1 : Int32)) M
def bX11_planNeeded_2 (n0 : Nat) (k2 : Int32 → Int32 → Int32 → Mem → Option (Int32 × Mem)) (x1 : Int32) (x2 : Int32) (x3 : Int32) (M : Mem) : Option (Int32 × Mem) :=
  if (gI M (128 * (gR M 1) + 5)) ≤ x3 then
    some ((1 : Int32), M)
  else
    (fX11_doesWithout n0 x3 x1 (0 : Int32) x2 M).bind fun z18 =>
    if z18.1 = 0 then
      (fX11_findGiving n0 x3 x1 x2 z18.2).bind fun z33 =>
      if oob x3 5 then none else
      bnd (sA z33.2 28 (Int32.toNatClampNeg x3) z33.1) fun M36 =>
      if oob x3 5 then none else
      if (gA M36 28 (Int32.toNatClampNeg x3)) = (-1 : Int32) then
        some ((0 : Int32), M36)
      else
        fX11_planNeeded_49 n0 k2 x1 x2 x3 M36
    else
      fX11_planNeeded_49 n0 k2 x1 x2 x3 z18.2
def fX11_planNeeded_2 (n0 : Nat) : Int32 → Int32 → Int32 → Mem → Option (Int32 × Mem) := loopN (bX11_planNeeded_2 n0) (fun _ _ _ _ => none) n0
def fX11_planNeeded (n0 : Nat) (x1 : Int32) (x2 : Int32) (M : Mem) : Option (Int32 × Mem) :=
  fX11_planNeeded_2 n0 x1 x2 (0 : Int32) M
theorem tfX11_planNeeded_49 (n0 : Nat) (hO : OKc p (rmL 7) s m args meth c LX D cy ad cX11_planNeeded RX11 4 7 (some .boolean)) (k2 : Int32 → Int32 → Int32 → Mem → Option (Int32 × Mem)) (hk2 : ∀ (x1 : Int32) (x2 : Int32) (x3 : Int32) (M : Mem), BL p l e (rmL 7) s m args below meth c LX D cy ad 4 (QI LX D cy ad) 2 [(0, .ref (ad 0)), (1, .int x1), (2, .int x2), (3, .int x3)] [] M (k2 x1 x2 x3 M)) (x1 : Int32) (x2 : Int32) (x3 : Int32) (M : Mem) : BL p l e (rmL 7) s m args below meth c LX D cy ad 4 (QI LX D cy ad) 49 [(0, .ref (ad 0)), (1, .int x1), (2, .int x2), (3, .int x3)] [] M (fX11_planNeeded_49 n0 k2 x1 x2 x3 M) := by
  unfold fX11_planNeeded_49
  refine b_iinc hO dX11_planNeeded_49 3 rfl ic_i_1 (by decide) (lv' := [(3, .int _), (0, .ref _), (1, .int _), (2, .int _)]) rfl ?_
  refine b_goto hO dX11_planNeeded_52 (tgt := 2) (by decide) ?_
  refine b_sub [1, 2, 3, 0] rfl ?_
  exact hk2 _ _ _ _
theorem tbX11_planNeeded_2 (n0 : Nat) (hO : OKc p (rmL 7) s m args meth c LX D cy ad cX11_planNeeded RX11 4 7 (some .boolean)) (k2 : Int32 → Int32 → Int32 → Mem → Option (Int32 × Mem)) (hk2 : ∀ (x1 : Int32) (x2 : Int32) (x3 : Int32) (M : Mem), BL p l e (rmL 7) s m args below meth c LX D cy ad 4 (QI LX D cy ad) 2 [(0, .ref (ad 0)), (1, .int x1), (2, .int x2), (3, .int x3)] [] M (k2 x1 x2 x3 M)) (x1 : Int32) (x2 : Int32) (x3 : Int32) (M : Mem) : BL p l e (rmL 7) s m args below meth c LX D cy ad 4 (QI LX D cy ad) 2 [(0, .ref (ad 0)), (1, .int x1), (2, .int x2), (3, .int x3)] [] M (bX11_planNeeded_2 n0 k2 x1 x2 x3 M) := by
  unfold bX11_planNeeded_2
  refine b_iload_n hO dX11_planNeeded_2 3 rfl rfl ?_
  refine b_aload_n hO dX11_planNeeded_3 0 rfl rfl ?_
  refine b_getR hO flX11_19 kLX_0 (id := 1) rfl rfl (rk := 9) rfl (by decide) dX11_planNeeded_4 (fun hg1 => ?_)
  refine b_get hO flX11_139 hg1 (v := .int (gI _ (128 * (gR M 1) + 5))) rfl dX11_planNeeded_7 ?_
  refine b_icmp_ge hO dX11_planNeeded_10 (tgt := 55) (by decide) ?_ ?_
  · refine b_iconst hO dX11_planNeeded_55 ic_i_1 ?_
    exact b_zretc hO (Or.inr rfl) dX11_planNeeded_56
  · refine b_aload_n hO dX11_planNeeded_13 0 rfl rfl ?_
    refine b_iload_n hO dX11_planNeeded_14 3 rfl rfl ?_
    refine b_iload_n hO dX11_planNeeded_15 1 rfl rfl ?_
    refine b_iconst hO dX11_planNeeded_16 ic_i_0 ?_
    refine b_iload_n hO dX11_planNeeded_17 2 rfl rfl ?_
    refine b_callVI hO mdX11_doesWithout mvX11_doesWithout w995 (ci := 11) rfl rfl (by decide) kLX_0 (As := [.int _, .int _, .int _, .int _]) (st := []) (ctX11_doesWithout n0 hO.2.2.2.2.2.2.1 _ _ _ _ _) (Nat.le_of_ble_eq_true rfl) rfl rfl (Nat.le_of_ble_eq_true rfl) dX11_planNeeded_18 (fun z18 => ?_)
    refine b_if_ne hO dX11_planNeeded_21 (tgt := 49) (by decide) ?_ ?_
    · exact tfX11_planNeeded_49 n0 hO k2 hk2 _ _ _ _
    · refine b_aload_n hO dX11_planNeeded_24 0 rfl rfl ?_
      refine b_get hO flX11_79 kLX_0 (v := .ref (ad 28)) rfl dX11_planNeeded_25 ?_
      refine b_iload_n hO dX11_planNeeded_28 3 rfl rfl ?_
      refine b_aload_n hO dX11_planNeeded_29 0 rfl rfl ?_
      refine b_iload_n hO dX11_planNeeded_30 3 rfl rfl ?_
      refine b_iload_n hO dX11_planNeeded_31 1 rfl rfl ?_
      refine b_iload_n hO dX11_planNeeded_32 2 rfl rfl ?_
      refine b_callVI hO mdX11_findGiving mvX11_findGiving w1011 (ci := 11) rfl rfl (by decide) kLX_0 (As := [.int _, .int _, .int _]) (st := [.int _, .ref _]) (ctX11_findGiving n0 hO.2.2.2.2.2.2.1 _ _ _ _) (Nat.le_of_ble_eq_true rfl) rfl rfl (Nat.le_of_ble_eq_true rfl) dX11_planNeeded_33 (fun z33 => ?_)
      refine b_iast hO kLX_28 (n := 5) rfl dX11_planNeeded_36 ?_
      refine b_bnd (fun M36 => ?_)
      refine b_aload_n hO dX11_planNeeded_37 0 rfl rfl ?_
      refine b_get hO flX11_79 kLX_0 (v := .ref (ad 28)) rfl dX11_planNeeded_38 ?_
      refine b_iload_n hO dX11_planNeeded_41 3 rfl rfl ?_
      refine b_iald hO kLX_28 (n := 5) rfl dX11_planNeeded_42 ?_
      refine b_iconst hO dX11_planNeeded_43 ic_i_m1 ?_
      refine b_icmp_ne hO dX11_planNeeded_44 (tgt := 49) (by decide) ?_ ?_
      · exact tfX11_planNeeded_49 n0 hO k2 hk2 _ _ _ _
      · refine b_iconst hO dX11_planNeeded_47 ic_i_0 ?_
        exact b_zretc hO (Or.inl rfl) dX11_planNeeded_48
theorem lX11_planNeeded_2 (n0 : Nat) (hO : OKc p (rmL 7) s m args meth c LX D cy ad cX11_planNeeded RX11 4 7 (some .boolean)) : ∀ (w : Nat) (x1 : Int32) (x2 : Int32) (x3 : Int32) (M : Mem), BL p l e (rmL 7) s m args below meth c LX D cy ad 4 (QI LX D cy ad) 2 [(0, .ref (ad 0)), (1, .int x1), (2, .int x2), (3, .int x3)] [] M (loopN (bX11_planNeeded_2 n0) (fun _ _ _ _ => none) w x1 x2 x3 M) := by
  intro w
  induction w with
  | zero =>
    intros
    exact b_none
  | succ w ih =>
    intro x1 x2 x3 M
    exact tbX11_planNeeded_2 n0 hO _ ih x1 x2 x3 M
theorem tfX11_planNeeded_2 (n0 : Nat) (hO : OKc p (rmL 7) s m args meth c LX D cy ad cX11_planNeeded RX11 4 7 (some .boolean)) (x1 : Int32) (x2 : Int32) (x3 : Int32) (M : Mem) : BL p l e (rmL 7) s m args below meth c LX D cy ad 4 (QI LX D cy ad) 2 [(0, .ref (ad 0)), (1, .int x1), (2, .int x2), (3, .int x3)] [] M (fX11_planNeeded_2 n0 x1 x2 x3 M) := lX11_planNeeded_2 n0 hO n0 x1 x2 x3 M
theorem tfX11_planNeeded (n0 : Nat) (hO : OKc p (rmL 7) s m args meth c LX D cy ad cX11_planNeeded RX11 4 7 (some .boolean)) (x1 : Int32) (x2 : Int32) (M : Mem) : BL p l e (rmL 7) s m args below meth c LX D cy ad 4 (QI LX D cy ad) 0 [(0, .ref (ad 0)), (1, .int x1), (2, .int x2)] [] M (fX11_planNeeded n0 x1 x2 M) := by
  unfold fX11_planNeeded
  refine b_iconst hO dX11_planNeeded_0 ic_i_0 ?_
  refine b_istore_n hO dX11_planNeeded_1 rfl (by decide) (lv' := [(3, .int _), (0, .ref _), (1, .int _), (2, .int _)]) rfl ?_
  refine b_sub [1, 2, 3, 0] rfl ?_
  exact tfX11_planNeeded_2 n0 hO _ _ _ _
theorem ctX11_planNeeded (n0 : Nat) (hI : Inj LX ad) (x1 : Int32) (x2 : Int32) (M : Mem) : CT l LX D cy ad yX11_planNeeded cX11_planNeeded 4 (some .boolean) 7 (QI LX D cy ad) [.ref (ad 0), .int x1, .int x2] M (fX11_planNeeded n0 x1 x2 M) :=
  CT.mk LXok hI (by decide) (Nat.le_of_ble_eq_true rfl) (fun hO => tfX11_planNeeded n0 hO x1 x2 M)
end
