section
variable {p : Program} {l : Launch} {e : Env} {s : State} {m : MethodId} {args : Array Value} {below : List Frame} {meth : Method} {c : Code} {D : va_G} {cy : Nat → ClassId} {ad : Nat → Nat} {dd : Nat}

/-! X12_is -/
def fX12_is (n0 : Nat) (x0 : Int32) (x1 : Int32) (x2 : Int32) (M : Mem) : Option (Int32 × Mem) :=
  if x0 < x1 then
    some ((0 : Int32), M)
  else
    if x2 < x0 then
      some ((0 : Int32), M)
    else
      some ((1 : Int32), M)
theorem tfX12_is (n0 : Nat) (hO : OKc p (rmL 1) s m args meth c LY D cy ad cX12_is RX12 3 1 (some .boolean)) (x0 : Int32) (x1 : Int32) (x2 : Int32) (M : Mem) : BL p l e (rmL 1) s m args below meth c LY D cy ad 3 (QI LY D cy ad) 0 [(0, .int x0), (1, .int x1), (2, .int x2)] [] M (fX12_is n0 x0 x1 x2 M) := by
  unfold fX12_is
  refine b_iload_n hO dX12_is_0 0 rfl rfl ?_
  refine b_iload_n hO dX12_is_1 1 rfl rfl ?_
  refine b_icmp_lt hO dX12_is_2 (tgt := 14) (by decide) ?_ ?_
  · refine b_iconst hO dX12_is_14 ic_i_0 ?_
    exact b_zretc hO (Or.inl rfl) dX12_is_15
  · refine b_iload_n hO dX12_is_5 0 rfl rfl ?_
    refine b_iload_n hO dX12_is_6 2 rfl rfl ?_
    refine b_icmp_gt hO dX12_is_7 (tgt := 14) (by decide) ?_ ?_
    · refine b_iconst hO dX12_is_14 ic_i_0 ?_
      exact b_zretc hO (Or.inl rfl) dX12_is_15
    · refine b_iconst hO dX12_is_10 ic_i_1 ?_
      refine b_goto hO dX12_is_11 (tgt := 15) (by decide) ?_
      exact b_zretc hO (Or.inr rfl) dX12_is_15
theorem ctX12_is (n0 : Nat) (hI : Inj LY ad) (x0 : Int32) (x1 : Int32) (x2 : Int32) (M : Mem) : CT l LY D cy ad yX12_is cX12_is 3 (some .boolean) 1 (QI LY D cy ad) [.int x0, .int x1, .int x2] M (fX12_is n0 x0 x1 x2 M) :=
  CT.mk LYok hI (by decide) (Nat.le_of_ble_eq_true rfl) (fun hO => tfX12_is n0 hO x0 x1 x2 M)
/-! X12_put -/
def bX12_put_3 (n0 : Nat) (k3 : Int32 → Int32 → Mem → Option (Mem)) (x1 : Int32) (x2 : Int32) (M : Mem) : Option (Mem) :=
  if x2 < 0 then
    some M
  else
    if oob (gI M 1) 1800 then none else
    bnd (sA M 1 (Int32.toNatClampNeg (gI M 1)) ((x1 >>> (x2 &&& 31)) &&& (255 : Int32))) fun M22 =>
    bnd (sI M22 1 ((gI M22 1) + (1 : Int32))) fun M30 =>
    k3 x1 (x2 + (-8 : Int32)) M30
def fX12_put_3 (n0 : Nat) : Int32 → Int32 → Mem → Option (Mem) := loopN (bX12_put_3 n0) (fun _ _ _ => none) n0
def fX12_put (n0 : Nat) (x1 : Int32) (M : Mem) : Option (Mem) :=
  fX12_put_3 n0 x1 (24 : Int32) M
theorem tbX12_put_3 (n0 : Nat) (hO : OKc p (rmL 1) s m args meth c LY D cy ad cX12_put RX12 3 1 none) (k3 : Int32 → Int32 → Mem → Option (Mem)) (hk3 : ∀ (x1 : Int32) (x2 : Int32) (M : Mem), BL p l e (rmL 1) s m args below meth c LY D cy ad 3 (QV LY D cy ad) 3 [(0, .ref (ad 0)), (1, .int x1), (2, .int x2)] [] M (k3 x1 x2 M)) (x1 : Int32) (x2 : Int32) (M : Mem) : BL p l e (rmL 1) s m args below meth c LY D cy ad 3 (QV LY D cy ad) 3 [(0, .ref (ad 0)), (1, .int x1), (2, .int x2)] [] M (bX12_put_3 n0 k3 x1 x2 M) := by
  unfold bX12_put_3
  refine b_iload_n hO dX12_put_3 2 rfl rfl ?_
  refine b_if_lt hO dX12_put_4 (tgt := 39) (by decide) ?_ ?_
  · exact b_vret hO dX12_put_39
  · refine b_aload_n hO dX12_put_7 0 rfl rfl ?_
    refine b_get hO flX12_7 kLY_0 (v := .ref (ad 1)) rfl dX12_put_8 ?_
    refine b_aload_n hO dX12_put_11 0 rfl rfl ?_
    refine b_get hO flX12_13 kLY_0 (v := .int (gI _ 1)) rfl dX12_put_12 ?_
    refine b_iload_n hO dX12_put_15 1 rfl rfl ?_
    refine b_iload_n hO dX12_put_16 2 rfl rfl ?_
    refine b_ishr hO dX12_put_17 ?_
    refine b_sipush hO dX12_put_18 ic_s_255 ?_
    refine b_iand hO dX12_put_21 ?_
    refine b_iast hO kLY_1 (n := 1800) rfl dX12_put_22 ?_
    refine b_bnd (fun M22 => ?_)
    refine b_aload_n hO dX12_put_23 0 rfl rfl ?_
    refine b_dup hO dX12_put_24 rfl ?_
    refine b_get hO flX12_13 kLY_0 (v := .int (gI _ 1)) rfl dX12_put_25 ?_
    refine b_iconst hO dX12_put_28 ic_i_1 ?_
    refine b_iadd hO dX12_put_29 ?_
    refine b_putI hO flX12_13 kLY_0 rfl rfl rfl (id := 1) rfl dX12_put_30 ?_
    refine b_bnd (fun M30 => ?_)
    refine b_iinc hO dX12_put_33 2 rfl ic_i_m8 (by decide) (lv' := [(2, .int _), (0, .ref _), (1, .int _)]) rfl ?_
    refine b_goto hO dX12_put_36 (tgt := 3) (by decide) ?_
    refine b_sub [1, 2, 0] rfl ?_
    exact hk3 _ _ _
theorem lX12_put_3 (n0 : Nat) (hO : OKc p (rmL 1) s m args meth c LY D cy ad cX12_put RX12 3 1 none) : ∀ (w : Nat) (x1 : Int32) (x2 : Int32) (M : Mem), BL p l e (rmL 1) s m args below meth c LY D cy ad 3 (QV LY D cy ad) 3 [(0, .ref (ad 0)), (1, .int x1), (2, .int x2)] [] M (loopN (bX12_put_3 n0) (fun _ _ _ => none) w x1 x2 M) := by
  intro w
  induction w with
  | zero =>
    intros
    exact b_none
  | succ w ih =>
    intro x1 x2 M
    exact tbX12_put_3 n0 hO _ ih x1 x2 M
theorem tfX12_put_3 (n0 : Nat) (hO : OKc p (rmL 1) s m args meth c LY D cy ad cX12_put RX12 3 1 none) (x1 : Int32) (x2 : Int32) (M : Mem) : BL p l e (rmL 1) s m args below meth c LY D cy ad 3 (QV LY D cy ad) 3 [(0, .ref (ad 0)), (1, .int x1), (2, .int x2)] [] M (fX12_put_3 n0 x1 x2 M) := lX12_put_3 n0 hO n0 x1 x2 M
theorem tfX12_put (n0 : Nat) (hO : OKc p (rmL 1) s m args meth c LY D cy ad cX12_put RX12 3 1 none) (x1 : Int32) (M : Mem) : BL p l e (rmL 1) s m args below meth c LY D cy ad 3 (QV LY D cy ad) 0 [(0, .ref (ad 0)), (1, .int x1)] [] M (fX12_put n0 x1 M) := by
  unfold fX12_put
  refine b_bipush hO dX12_put_0 ic_b_24 ?_
  refine b_istore_n hO dX12_put_2 rfl (by decide) (lv' := [(2, .int _), (0, .ref _), (1, .int _)]) rfl ?_
  refine b_sub [1, 2, 0] rfl ?_
  exact tfX12_put_3 n0 hO _ _ _
theorem ctX12_put (n0 : Nat) (hI : Inj LY ad) (x1 : Int32) (M : Mem) : CT l LY D cy ad yX12_put cX12_put 3 none 1 (QV LY D cy ad) [.ref (ad 0), .int x1] M (fX12_put n0 x1 M) :=
  CT.mk LYok hI (by decide) (Nat.le_of_ble_eq_true rfl) (fun hO => tfX12_put n0 hO x1 M)
/-! X12_refuses -/
def fX12_refuses (n0 : Nat) (x1 : Int32) (M : Mem) : Option (Int32 × Mem) :=
  if oob x1 6 then none else
  if oob x1 6 then none else
  bnd (sA M 27 (Int32.toNatClampNeg x1) ((gA M 27 (Int32.toNatClampNeg x1)) + (1 : Int32))) fun M9 =>
  some ((-1 : Int32), M9)
theorem tfX12_refuses (n0 : Nat) (hO : OKc p (rmL 1) s m args meth c LY D cy ad cX12_refuses RX12 2 1 (some .int)) (x1 : Int32) (M : Mem) : BL p l e (rmL 1) s m args below meth c LY D cy ad 2 (QI LY D cy ad) 0 [(0, .ref (ad 0)), (1, .int x1)] [] M (fX12_refuses n0 x1 M) := by
  unfold fX12_refuses
  refine b_aload_n hO dX12_refuses_0 0 rfl rfl ?_
  refine b_get hO flX12_153 kLY_0 (v := .ref (ad 27)) rfl dX12_refuses_1 ?_
  refine b_iload_n hO dX12_refuses_4 1 rfl rfl ?_
  refine b_dup2 hO dX12_refuses_5 rfl rfl ?_
  refine b_iald hO kLY_27 (n := 6) rfl dX12_refuses_6 ?_
  refine b_iconst hO dX12_refuses_7 ic_i_1 ?_
  refine b_iadd hO dX12_refuses_8 ?_
  refine b_iast hO kLY_27 (n := 6) rfl dX12_refuses_9 ?_
  refine b_bnd (fun M9 => ?_)
  refine b_iconst hO dX12_refuses_10 ic_i_m1 ?_
  exact b_iret hO dX12_refuses_11
theorem ctX12_refuses (n0 : Nat) (hI : Inj LY ad) (x1 : Int32) (M : Mem) : CT l LY D cy ad yX12_refuses cX12_refuses 2 (some .int) 1 (QI LY D cy ad) [.ref (ad 0), .int x1] M (fX12_refuses n0 x1 M) :=
  CT.mk LYok hI (by decide) (Nat.le_of_ble_eq_true rfl) (fun hO => tfX12_refuses n0 hO x1 M)
/-! X12_feed -/
def fX12_feed (n0 : Nat) (x1 : Int32) (x2 : Int32) (x3 : Int32) (x4 : Int32) (x5 : Int32) (M : Mem) : Option (Int32 × Mem) :=
  if ((gI M 1) + (20 : Int32)) ≤ (1600 : Int32) then
    (fX12_put n0 x1 M).bind fun z21 =>
    (fX12_put n0 x2 z21).bind fun z26 =>
    (fX12_put n0 x3 z26).bind fun z31 =>
    (fX12_put n0 x4 z31).bind fun z37 =>
    (fX12_put n0 x5 z37).bind fun z43 =>
    some ((gI z43 1), z43)
  else
    (fX12_refuses n0 (0 : Int32) M).bind fun z15 =>
    some (z15.1, z15.2)
theorem tfX12_feed (n0 : Nat) (hO : OKc p (rmL 2) s m args meth c LY D cy ad cX12_feed RX12 6 2 (some .int)) (x1 : Int32) (x2 : Int32) (x3 : Int32) (x4 : Int32) (x5 : Int32) (M : Mem) : BL p l e (rmL 2) s m args below meth c LY D cy ad 6 (QI LY D cy ad) 0 [(0, .ref (ad 0)), (1, .int x1), (2, .int x2), (3, .int x3), (4, .int x4), (5, .int x5)] [] M (fX12_feed n0 x1 x2 x3 x4 x5 M) := by
  unfold fX12_feed
  refine b_aload_n hO dX12_feed_0 0 rfl rfl ?_
  refine b_get hO flX12_13 kLY_0 (v := .int (gI _ 1)) rfl dX12_feed_1 ?_
  refine b_bipush hO dX12_feed_4 ic_b_20 ?_
  refine b_iadd hO dX12_feed_6 ?_
  refine b_sipush hO dX12_feed_7 ic_s_1600 ?_
  refine b_icmp_le hO dX12_feed_10 (tgt := 19) (by decide) ?_ ?_
  · refine b_aload_n hO dX12_feed_19 0 rfl rfl ?_
    refine b_iload_n hO dX12_feed_20 1 rfl rfl ?_
    refine b_callVV hO mdX12_put mvX12_put w1457 (ci := 12) rfl rfl (by decide) kLY_0 (As := [.int _]) (st := []) (ctX12_put n0 hO.2.2.2.2.2.2.1 _ _) (Nat.le_of_ble_eq_true rfl) rfl rfl (Nat.le_of_ble_eq_true rfl) dX12_feed_21 (fun z21 => ?_)
    refine b_aload_n hO dX12_feed_24 0 rfl rfl ?_
    refine b_iload_n hO dX12_feed_25 2 rfl rfl ?_
    refine b_callVV hO mdX12_put mvX12_put w1457 (ci := 12) rfl rfl (by decide) kLY_0 (As := [.int _]) (st := []) (ctX12_put n0 hO.2.2.2.2.2.2.1 _ _) (Nat.le_of_ble_eq_true rfl) rfl rfl (Nat.le_of_ble_eq_true rfl) dX12_feed_26 (fun z26 => ?_)
    refine b_aload_n hO dX12_feed_29 0 rfl rfl ?_
    refine b_iload_n hO dX12_feed_30 3 rfl rfl ?_
    refine b_callVV hO mdX12_put mvX12_put w1457 (ci := 12) rfl rfl (by decide) kLY_0 (As := [.int _]) (st := []) (ctX12_put n0 hO.2.2.2.2.2.2.1 _ _) (Nat.le_of_ble_eq_true rfl) rfl rfl (Nat.le_of_ble_eq_true rfl) dX12_feed_31 (fun z31 => ?_)
    refine b_aload_n hO dX12_feed_34 0 rfl rfl ?_
    refine b_iload hO dX12_feed_35 4 rfl ?_
    refine b_callVV hO mdX12_put mvX12_put w1457 (ci := 12) rfl rfl (by decide) kLY_0 (As := [.int _]) (st := []) (ctX12_put n0 hO.2.2.2.2.2.2.1 _ _) (Nat.le_of_ble_eq_true rfl) rfl rfl (Nat.le_of_ble_eq_true rfl) dX12_feed_37 (fun z37 => ?_)
    refine b_aload_n hO dX12_feed_40 0 rfl rfl ?_
    refine b_iload hO dX12_feed_41 5 rfl ?_
    refine b_callVV hO mdX12_put mvX12_put w1457 (ci := 12) rfl rfl (by decide) kLY_0 (As := [.int _]) (st := []) (ctX12_put n0 hO.2.2.2.2.2.2.1 _ _) (Nat.le_of_ble_eq_true rfl) rfl rfl (Nat.le_of_ble_eq_true rfl) dX12_feed_43 (fun z43 => ?_)
    refine b_aload_n hO dX12_feed_46 0 rfl rfl ?_
    refine b_get hO flX12_13 kLY_0 (v := .int (gI _ 1)) rfl dX12_feed_47 ?_
    exact b_iret hO dX12_feed_50
  · refine b_aload_n hO dX12_feed_13 0 rfl rfl ?_
    refine b_iconst hO dX12_feed_14 ic_i_0 ?_
    refine b_callVI hO mdX12_refuses mvX12_refuses w1453 (ci := 12) rfl rfl (by decide) kLY_0 (As := [.int _]) (st := []) (ctX12_refuses n0 hO.2.2.2.2.2.2.1 _ _) (Nat.le_of_ble_eq_true rfl) rfl rfl (Nat.le_of_ble_eq_true rfl) dX12_feed_15 (fun z15 => ?_)
    exact b_iret hO dX12_feed_18
theorem ctX12_feed (n0 : Nat) (hI : Inj LY ad) (x1 : Int32) (x2 : Int32) (x3 : Int32) (x4 : Int32) (x5 : Int32) (M : Mem) : CT l LY D cy ad yX12_feed cX12_feed 6 (some .int) 2 (QI LY D cy ad) [.ref (ad 0), .int x1, .int x2, .int x3, .int x4, .int x5] M (fX12_feed n0 x1 x2 x3 x4 x5 M) :=
  CT.mk LYok hI (by decide) (Nat.le_of_ble_eq_true rfl) (fun hO => tfX12_feed n0 hO x1 x2 x3 x4 x5 M)
/-! X12_end -/
def fX12_end_12 (n0 : Nat) (M : Mem) : Option (Int32 × Mem) :=
  (fX12_refuses n0 (0 : Int32) M).bind fun z14 =>
  if z14.1 < 0 then
    some ((0 : Int32), z14.2)
  else
    some ((1 : Int32), z14.2)
def fX12_end (n0 : Nat) (x1 : Int32) (M : Mem) : Option (Int32 × Mem) :=
  if x1 < 0 then
    fX12_end_12 n0 M
  else
    if x1 ≤ (gI M 1) then
      bnd (sI M 1 x1) fun M28 =>
      some ((1 : Int32), M28)
    else
      fX12_end_12 n0 M
theorem tfX12_end_12 (n0 : Nat) (hO : OKc p (rmL 2) s m args meth c LY D cy ad cX12_end RX12 2 2 (some .boolean)) (M : Mem) : BL p l e (rmL 2) s m args below meth c LY D cy ad 2 (QI LY D cy ad) 12 [(0, .ref (ad 0))] [] M (fX12_end_12 n0 M) := by
  unfold fX12_end_12
  refine b_aload_n hO dX12_end_12 0 rfl rfl ?_
  refine b_iconst hO dX12_end_13 ic_i_0 ?_
  refine b_callVI hO mdX12_refuses mvX12_refuses w1453 (ci := 12) rfl rfl (by decide) kLY_0 (As := [.int _]) (st := []) (ctX12_refuses n0 hO.2.2.2.2.2.2.1 _ _) (Nat.le_of_ble_eq_true rfl) rfl rfl (Nat.le_of_ble_eq_true rfl) dX12_end_14 (fun z14 => ?_)
  refine b_if_lt hO dX12_end_17 (tgt := 24) (by decide) ?_ ?_
  · refine b_iconst hO dX12_end_24 ic_i_0 ?_
    exact b_zretc hO (Or.inl rfl) dX12_end_25
  · refine b_iconst hO dX12_end_20 ic_i_1 ?_
    refine b_goto hO dX12_end_21 (tgt := 25) (by decide) ?_
    exact b_zretc hO (Or.inr rfl) dX12_end_25
theorem tfX12_end (n0 : Nat) (hO : OKc p (rmL 2) s m args meth c LY D cy ad cX12_end RX12 2 2 (some .boolean)) (x1 : Int32) (M : Mem) : BL p l e (rmL 2) s m args below meth c LY D cy ad 2 (QI LY D cy ad) 0 [(0, .ref (ad 0)), (1, .int x1)] [] M (fX12_end n0 x1 M) := by
  unfold fX12_end
  refine b_iload_n hO dX12_end_0 1 rfl rfl ?_
  refine b_if_lt hO dX12_end_1 (tgt := 12) (by decide) ?_ ?_
  · refine b_sub [0] rfl ?_
    exact tfX12_end_12 n0 hO _
  · refine b_iload_n hO dX12_end_4 1 rfl rfl ?_
    refine b_aload_n hO dX12_end_5 0 rfl rfl ?_
    refine b_get hO flX12_13 kLY_0 (v := .int (gI _ 1)) rfl dX12_end_6 ?_
    refine b_icmp_le hO dX12_end_9 (tgt := 26) (by decide) ?_ ?_
    · refine b_aload_n hO dX12_end_26 0 rfl rfl ?_
      refine b_iload_n hO dX12_end_27 1 rfl rfl ?_
      refine b_putI hO flX12_13 kLY_0 rfl rfl rfl (id := 1) rfl dX12_end_28 ?_
      refine b_bnd (fun M28 => ?_)
      refine b_iconst hO dX12_end_31 ic_i_1 ?_
      exact b_zretc hO (Or.inr rfl) dX12_end_32
    · refine b_sub [0] rfl ?_
      exact tfX12_end_12 n0 hO _
theorem ctX12_end (n0 : Nat) (hI : Inj LY ad) (x1 : Int32) (M : Mem) : CT l LY D cy ad yX12_end cX12_end 2 (some .boolean) 2 (QI LY D cy ad) [.ref (ad 0), .int x1] M (fX12_end n0 x1 M) :=
  CT.mk LYok hI (by decide) (Nat.le_of_ble_eq_true rfl) (fun hO => tfX12_end n0 hO x1 M)
/-! X12_blame -/
def fX12_blame (n0 : Nat) (x1 : Int32) (x2 : Int32) (M : Mem) : Option (Mem) :=
  if (gI M 8) ≤ 0 then
    bnd (sI M 8 x1) fun M10 =>
    some (sI M10 9 x2)
  else
    some M
theorem tfX12_blame (n0 : Nat) (hO : OKc p (rmL 1) s m args meth c LY D cy ad cX12_blame RX12 3 1 none) (x1 : Int32) (x2 : Int32) (M : Mem) : BL p l e (rmL 1) s m args below meth c LY D cy ad 3 (QV LY D cy ad) 0 [(0, .ref (ad 0)), (1, .int x1), (2, .int x2)] [] M (fX12_blame n0 x1 x2 M) := by
  unfold fX12_blame
  refine b_aload_n hO dX12_blame_0 0 rfl rfl ?_
  refine b_get hO flX12_36 kLY_0 (v := .int (gI _ 8)) rfl dX12_blame_1 ?_
  refine b_if_le hO dX12_blame_4 (tgt := 8) (by decide) ?_ ?_
  · refine b_aload_n hO dX12_blame_8 0 rfl rfl ?_
    refine b_iload_n hO dX12_blame_9 1 rfl rfl ?_
    refine b_putI hO flX12_36 kLY_0 rfl rfl rfl (id := 8) rfl dX12_blame_10 ?_
    refine b_bnd (fun M10 => ?_)
    refine b_aload_n hO dX12_blame_13 0 rfl rfl ?_
    refine b_iload_n hO dX12_blame_14 2 rfl rfl ?_
    refine b_putI hO flX12_39 kLY_0 rfl rfl rfl (id := 9) rfl dX12_blame_15 ?_
    exact b_vret hO dX12_blame_18
  · exact b_vret hO dX12_blame_7
theorem ctX12_blame (n0 : Nat) (hI : Inj LY ad) (x1 : Int32) (x2 : Int32) (M : Mem) : CT l LY D cy ad yX12_blame cX12_blame 3 none 1 (QV LY D cy ad) [.ref (ad 0), .int x1, .int x2] M (fX12_blame n0 x1 x2 M) :=
  CT.mk LYok hI (by decide) (Nat.le_of_ble_eq_true rfl) (fun hO => tfX12_blame n0 hO x1 x2 M)
/-! X12_isLetter -/
def fX12_isLetter (n0 : Nat) (x0 : Int32) (M : Mem) : Option (Int32 × Mem) :=
  if x0 < (97 : Int32) then
    some ((0 : Int32), M)
  else
    if (122 : Int32) < x0 then
      some ((0 : Int32), M)
    else
      some ((1 : Int32), M)
theorem tfX12_isLetter (n0 : Nat) (hO : OKc p (rmL 1) s m args meth c LY D cy ad cX12_isLetter RX12 1 1 (some .boolean)) (x0 : Int32) (M : Mem) : BL p l e (rmL 1) s m args below meth c LY D cy ad 1 (QI LY D cy ad) 0 [(0, .int x0)] [] M (fX12_isLetter n0 x0 M) := by
  unfold fX12_isLetter
  refine b_iload_n hO dX12_isLetter_0 0 rfl rfl ?_
  refine b_bipush hO dX12_isLetter_1 ic_b_97 ?_
  refine b_icmp_lt hO dX12_isLetter_3 (tgt := 16) (by decide) ?_ ?_
  · refine b_iconst hO dX12_isLetter_16 ic_i_0 ?_
    exact b_zretc hO (Or.inl rfl) dX12_isLetter_17
  · refine b_iload_n hO dX12_isLetter_6 0 rfl rfl ?_
    refine b_bipush hO dX12_isLetter_7 ic_b_122 ?_
    refine b_icmp_gt hO dX12_isLetter_9 (tgt := 16) (by decide) ?_ ?_
    · refine b_iconst hO dX12_isLetter_16 ic_i_0 ?_
      exact b_zretc hO (Or.inl rfl) dX12_isLetter_17
    · refine b_iconst hO dX12_isLetter_12 ic_i_1 ?_
      refine b_goto hO dX12_isLetter_13 (tgt := 17) (by decide) ?_
      exact b_zretc hO (Or.inr rfl) dX12_isLetter_17
theorem ctX12_isLetter (n0 : Nat) (hI : Inj LY ad) (x0 : Int32) (M : Mem) : CT l LY D cy ad yX12_isLetter cX12_isLetter 1 (some .boolean) 1 (QI LY D cy ad) [.int x0] M (fX12_isLetter n0 x0 M) :=
  CT.mk LYok hI (by decide) (Nat.le_of_ble_eq_true rfl) (fun hO => tfX12_isLetter n0 hO x0 M)
/-! X12_isDigit -/
def fX12_isDigit (n0 : Nat) (x0 : Int32) (M : Mem) : Option (Int32 × Mem) :=
  if x0 < (48 : Int32) then
    some ((0 : Int32), M)
  else
    if (57 : Int32) < x0 then
      some ((0 : Int32), M)
    else
      some ((1 : Int32), M)
theorem tfX12_isDigit (n0 : Nat) (hO : OKc p (rmL 1) s m args meth c LY D cy ad cX12_isDigit RX12 1 1 (some .boolean)) (x0 : Int32) (M : Mem) : BL p l e (rmL 1) s m args below meth c LY D cy ad 1 (QI LY D cy ad) 0 [(0, .int x0)] [] M (fX12_isDigit n0 x0 M) := by
  unfold fX12_isDigit
  refine b_iload_n hO dX12_isDigit_0 0 rfl rfl ?_
  refine b_bipush hO dX12_isDigit_1 ic_b_48 ?_
  refine b_icmp_lt hO dX12_isDigit_3 (tgt := 16) (by decide) ?_ ?_
  · refine b_iconst hO dX12_isDigit_16 ic_i_0 ?_
    exact b_zretc hO (Or.inl rfl) dX12_isDigit_17
  · refine b_iload_n hO dX12_isDigit_6 0 rfl rfl ?_
    refine b_bipush hO dX12_isDigit_7 ic_b_57 ?_
    refine b_icmp_gt hO dX12_isDigit_9 (tgt := 16) (by decide) ?_ ?_
    · refine b_iconst hO dX12_isDigit_16 ic_i_0 ?_
      exact b_zretc hO (Or.inl rfl) dX12_isDigit_17
    · refine b_iconst hO dX12_isDigit_12 ic_i_1 ?_
      refine b_goto hO dX12_isDigit_13 (tgt := 17) (by decide) ?_
      exact b_zretc hO (Or.inr rfl) dX12_isDigit_17
theorem ctX12_isDigit (n0 : Nat) (hI : Inj LY ad) (x0 : Int32) (M : Mem) : CT l LY D cy ad yX12_isDigit cX12_isDigit 1 (some .boolean) 1 (QI LY D cy ad) [.int x0] M (fX12_isDigit n0 x0 M) :=
  CT.mk LYok hI (by decide) (Nat.le_of_ble_eq_true rfl) (fun hO => tfX12_isDigit n0 hO x0 M)
/-! X12_lex -/
def fX12_lex (n0 : Nat) (M : Mem) : Option (Mem) :=
  if (gI M 12) = (-1 : Int32) then
    some M
  else
    (fX12_blame n0 (1 : Int32) (gI M 12) M).bind fun z14 =>
    some z14
theorem tfX12_lex (n0 : Nat) (hO : OKc p (rmL 2) s m args meth c LY D cy ad cX12_lex RX12 1 2 none) (M : Mem) : BL p l e (rmL 2) s m args below meth c LY D cy ad 1 (QV LY D cy ad) 0 [(0, .ref (ad 0))] [] M (fX12_lex n0 M) := by
  unfold fX12_lex
  refine b_aload_n hO dX12_lex_0 0 rfl rfl ?_
  refine b_get hO flX12_48 kLY_0 (v := .int (gI _ 12)) rfl dX12_lex_1 ?_
  refine b_iconst hO dX12_lex_4 ic_i_m1 ?_
  refine b_icmp_eq hO dX12_lex_5 (tgt := 17) (by decide) ?_ ?_
  · exact b_vret hO dX12_lex_17
  · refine b_aload_n hO dX12_lex_8 0 rfl rfl ?_
    refine b_iconst hO dX12_lex_9 ic_i_1 ?_
    refine b_aload_n hO dX12_lex_10 0 rfl rfl ?_
    refine b_get hO flX12_48 kLY_0 (v := .int (gI _ 12)) rfl dX12_lex_11 ?_
    refine b_callVV hO mdX12_blame mvX12_blame w1491 (ci := 12) rfl rfl (by decide) kLY_0 (As := [.int _, .int _]) (st := []) (ctX12_blame n0 hO.2.2.2.2.2.2.1 _ _ _) (Nat.le_of_ble_eq_true rfl) rfl rfl (Nat.le_of_ble_eq_true rfl) dX12_lex_14 (fun z14 => ?_)
    exact b_vret hO dX12_lex_17
theorem ctX12_lex (n0 : Nat) (hI : Inj LY ad) (M : Mem) : CT l LY D cy ad yX12_lex cX12_lex 1 none 2 (QV LY D cy ad) [.ref (ad 0)] M (fX12_lex n0 M) :=
  CT.mk LYok hI (by decide) (Nat.le_of_ble_eq_true rfl) (fun hO => tfX12_lex n0 hO M)
/-! X12_ahead -/
def fX12_ahead_35 (n0 : Nat) (k5 : Int32 → Mem → Option (Mem)) (x1 : Int32) (M : Mem) : Option (Mem) :=
  k5 (x1 + (1 : Int32)) M
def fX12_ahead_325 (n0 : Nat) (k204 : Int32 → Int32 → Int32 → Int32 → Int32 → Mem → Option (Mem)) (x1 : Int32) (x2 : Int32) (x3 : Int32) (x4 : Int32) (x5 : Int32) (M : Mem) : Option (Mem) :=
  k204 (x1 + (1 : Int32)) x2 x3 x4 (x5 + (1 : Int32)) M
def fX12_ahead_293 (n0 : Nat) (k204 : Int32 → Int32 → Int32 → Int32 → Int32 → Mem → Option (Mem)) (x1 : Int32) (x2 : Int32) (x3 : Int32) (x4 : Int32) (x5 : Int32) (M : Mem) : Option (Mem) :=
  if x4 ≤ x5 then
    fX12_ahead_325 n0 k204 x1 x2 x3 x4 x5 M
  else
    if x3 = 0 then
      fX12_ahead_325 n0 k204 x1 x2 x3 x4 x5 M
    else
      if oob x1 1800 then none else
      fX12_ahead_325 n0 k204 x1 x2 x3 x4 x5 (sI M 6 ((((10 : Int32) * (gI M 6)) + (gA M 1 (Int32.toNatClampNeg x1))) - (48 : Int32)))
def fX12_ahead_263 (n0 : Nat) (k204 : Int32 → Int32 → Int32 → Int32 → Int32 → Mem → Option (Mem)) (x1 : Int32) (x2 : Int32) (x3 : Int32) (x4 : Int32) (x5 : Int32) (M : Mem) : Option (Mem) :=
  if x4 ≤ x5 then
    fX12_ahead_293 n0 k204 x1 x2 x3 x4 x5 M
  else
    if x2 = 0 then
      fX12_ahead_293 n0 k204 x1 x2 x3 x4 x5 M
    else
      if oob x1 1800 then none else
      fX12_ahead_293 n0 k204 x1 x2 x3 x4 x5 (sL M 7 (((gL M 7) <<< (((8 : Int32)).toInt64 &&& 63)) ||| ((gA M 1 (Int32.toNatClampNeg x1))).toInt64))
def fX12_ahead_243 (n0 : Nat) (k204 : Int32 → Int32 → Int32 → Int32 → Int32 → Mem → Option (Mem)) (x1 : Int32) (x2 : Int32) (x3 : Int32) (x4 : Int32) (x5 : Int32) (M : Mem) : Option (Mem) :=
  if x5 = x4 then
    if (gI M 12) = (-1 : Int32) then
      fX12_ahead_263 n0 k204 x1 x2 x3 x4 x5 (sI M 12 x1)
    else
      fX12_ahead_263 n0 k204 x1 x2 x3 x4 x5 M
  else
    fX12_ahead_263 n0 k204 x1 x2 x3 x4 x5 M
def fX12_ahead_334 (n0 : Nat) (x1 : Int32) (M : Mem) : Option (Mem) :=
  some (sI M 5 x1)
def bX12_ahead_204 (n0 : Nat) (k204 : Int32 → Int32 → Int32 → Int32 → Int32 → Mem → Option (Mem)) (x1 : Int32) (x2 : Int32) (x3 : Int32) (x4 : Int32) (x5 : Int32) (M : Mem) : Option (Mem) :=
  if (gI M 2) ≤ x1 then
    fX12_ahead_334 n0 x1 M
  else
    if x2 = 0 then
      if oob x1 1800 then none else
      (fX12_isDigit n0 (gA M 1 (Int32.toNatClampNeg x1)) M).bind fun z237 =>
      if z237.1 = 0 then
        fX12_ahead_334 n0 x1 z237.2
      else
        fX12_ahead_243 n0 k204 x1 x2 x3 x4 x5 z237.2
    else
      if oob x1 1800 then none else
      (fX12_isLetter n0 (gA M 1 (Int32.toNatClampNeg x1)) M).bind fun z222 =>
      if z222.1 = 0 then
        fX12_ahead_334 n0 x1 z222.2
      else
        fX12_ahead_243 n0 k204 x1 x2 x3 x4 x5 z222.2
def fX12_ahead_204 (n0 : Nat) : Int32 → Int32 → Int32 → Int32 → Int32 → Mem → Option (Mem) := loopN (bX12_ahead_204 n0) (fun _ _ _ _ _ _ => none) n0
def fX12_ahead_199 (n0 : Nat) (x1 : Int32) (x2 : Int32) (x3 : Int32) (u0 : Int32) (M : Mem) : Option (Mem) :=
  fX12_ahead_204 n0 x1 x2 x3 u0 (0 : Int32) M
def fX12_ahead_186 (n0 : Nat) (x1 : Int32) (x2 : Int32) (x3 : Int32) (u1 : Int32) (M : Mem) : Option (Mem) :=
  bnd (sI M 3 u1) fun M186 =>
  if x2 = 0 then
    fX12_ahead_199 n0 x1 x2 x3 (4 : Int32) M186
  else
    fX12_ahead_199 n0 x1 x2 x3 (6 : Int32) M186
def fX12_ahead_176 (n0 : Nat) (x1 : Int32) (x2 : Int32) (x3 : Int32) (M : Mem) : Option (Mem) :=
  if x2 = 0 then
    fX12_ahead_186 n0 x1 x2 x3 (2 : Int32) M
  else
    fX12_ahead_186 n0 x1 x2 x3 (1 : Int32) M
def fX12_ahead_135 (n0 : Nat) (x1 : Int32) (x2 : Int32) (x3 : Int32) (M : Mem) : Option (Mem) :=
  bnd (sI M 6 (0 : Int32)) fun M137 =>
  bnd (sL M137 7 (0 : Int64)) fun M142 =>
  bnd (sI M142 3 (3 : Int32)) fun M147 =>
  bnd (sI M147 5 (x1 + (1 : Int32))) fun M154 =>
  if x2 = 0 then
    if x3 = 0 then
      if oob x1 1800 then none else
      some (sI M154 6 (gA M154 1 (Int32.toNatClampNeg x1)))
    else
      fX12_ahead_176 n0 x1 x2 x3 M154
  else
    fX12_ahead_176 n0 x1 x2 x3 M154
def fX12_ahead_130 (n0 : Nat) (x1 : Int32) (x2 : Int32) (x3 : Int32) (M : Mem) : Option (Mem) :=
  fX12_ahead_135 n0 x1 x2 x3 (sI M 12 x1)
def fX12_ahead_98 (n0 : Nat) (x1 : Int32) (x2 : Int32) (x3 : Int32) (M : Mem) : Option (Mem) :=
  if x1 ≤ 0 then
    fX12_ahead_135 n0 x1 x2 x3 M
  else
    if oob (x1 - (1 : Int32)) 1800 then none else
    (fX12_isLetter n0 (gA M 1 (Int32.toNatClampNeg (x1 - (1 : Int32)))) M).bind fun z110 =>
    if z110.1 = 0 then
      if oob (x1 - (1 : Int32)) 1800 then none else
      (fX12_isDigit n0 (gA z110.2 1 (Int32.toNatClampNeg (x1 - (1 : Int32)))) z110.2).bind fun z124 =>
      if z124.1 = 0 then
        fX12_ahead_135 n0 x1 x2 x3 z124.2
      else
        fX12_ahead_130 n0 x1 x2 x3 z124.2
    else
      fX12_ahead_130 n0 x1 x2 x3 z110.2
def fX12_ahead_41 (n0 : Nat) (x1 : Int32) (M : Mem) : Option (Mem) :=
  bnd (sI M 4 x1) fun M43 =>
  bnd (sI M43 5 x1) fun M48 =>
  bnd (sI M48 3 (0 : Int32)) fun M53 =>
  bnd (sI M53 12 (-1 : Int32)) fun M58 =>
  if x1 < (gI M58 2) then
    if oob x1 1800 then none else
    (fX12_isLetter n0 (gA M58 1 (Int32.toNatClampNeg x1)) M58).bind fun z76 =>
    if oob x1 1800 then none else
    (fX12_isDigit n0 (gA z76.2 1 (Int32.toNatClampNeg x1)) z76.2).bind fun z86 =>
    if z76.1 = 0 then
      if z86.1 = 0 then
        fX12_ahead_135 n0 x1 z76.1 z86.1 z86.2
      else
        fX12_ahead_98 n0 x1 z76.1 z86.1 z86.2
    else
      fX12_ahead_98 n0 x1 z76.1 z86.1 z86.2
  else
    some M58
def bX12_ahead_5 (n0 : Nat) (k5 : Int32 → Mem → Option (Mem)) (x1 : Int32) (M : Mem) : Option (Mem) :=
  if (gI M 2) ≤ x1 then
    fX12_ahead_41 n0 x1 M
  else
    if oob x1 1800 then none else
    if (gA M 1 (Int32.toNatClampNeg x1)) = (32 : Int32) then
      fX12_ahead_35 n0 k5 x1 M
    else
      if oob x1 1800 then none else
      if (gA M 1 (Int32.toNatClampNeg x1)) = (10 : Int32) then
        fX12_ahead_35 n0 k5 x1 M
      else
        fX12_ahead_41 n0 x1 M
def fX12_ahead_5 (n0 : Nat) : Int32 → Mem → Option (Mem) := loopN (bX12_ahead_5 n0) (fun _ _ => none) n0
def fX12_ahead (n0 : Nat) (M : Mem) : Option (Mem) :=
  bnd (gI M 5) fun x1_4 =>
  fX12_ahead_5 n0 x1_4 M
theorem tfX12_ahead_35 (n0 : Nat) (hO : OKc p (rmL 2) s m args meth c LY D cy ad cX12_ahead RX12 6 2 none) (k5 : Int32 → Mem → Option (Mem)) (hk5 : ∀ (x1 : Int32) (M : Mem), BL p l e (rmL 2) s m args below meth c LY D cy ad 6 (QV LY D cy ad) 5 [(0, .ref (ad 0)), (1, .int x1)] [] M (k5 x1 M)) (x1 : Int32) (M : Mem) : BL p l e (rmL 2) s m args below meth c LY D cy ad 6 (QV LY D cy ad) 35 [(0, .ref (ad 0)), (1, .int x1)] [] M (fX12_ahead_35 n0 k5 x1 M) := by
  unfold fX12_ahead_35
  refine b_iinc hO dX12_ahead_35 1 rfl ic_i_1 (by decide) (lv' := [(1, .int _), (0, .ref _)]) rfl ?_
  refine b_goto hO dX12_ahead_38 (tgt := 5) (by decide) ?_
  refine b_sub [1, 0] rfl ?_
  exact hk5 _ _
theorem tfX12_ahead_325 (n0 : Nat) (hO : OKc p (rmL 2) s m args meth c LY D cy ad cX12_ahead RX12 6 2 none) (k204 : Int32 → Int32 → Int32 → Int32 → Int32 → Mem → Option (Mem)) (hk204 : ∀ (x1 : Int32) (x2 : Int32) (x3 : Int32) (x4 : Int32) (x5 : Int32) (M : Mem), BL p l e (rmL 2) s m args below meth c LY D cy ad 6 (QV LY D cy ad) 204 [(0, .ref (ad 0)), (1, .int x1), (2, .int x2), (3, .int x3), (4, .int x4), (5, .int x5)] [] M (k204 x1 x2 x3 x4 x5 M)) (x1 : Int32) (x2 : Int32) (x3 : Int32) (x4 : Int32) (x5 : Int32) (M : Mem) : BL p l e (rmL 2) s m args below meth c LY D cy ad 6 (QV LY D cy ad) 325 [(0, .ref (ad 0)), (1, .int x1), (2, .int x2), (3, .int x3), (4, .int x4), (5, .int x5)] [] M (fX12_ahead_325 n0 k204 x1 x2 x3 x4 x5 M) := by
  unfold fX12_ahead_325
  refine b_iinc hO dX12_ahead_325 5 rfl ic_i_1 (by decide) (lv' := [(5, .int _), (0, .ref _), (1, .int _), (2, .int _), (3, .int _), (4, .int _)]) rfl ?_
  refine b_iinc hO dX12_ahead_328 2 rfl ic_i_1 (by decide) (lv' := [(1, .int _), (5, .int _), (0, .ref _), (2, .int _), (3, .int _), (4, .int _)]) rfl ?_
  refine b_goto hO dX12_ahead_331 (tgt := 204) (by decide) ?_
  refine b_sub [2, 0, 3, 4, 5, 1] rfl ?_
  exact hk204 _ _ _ _ _ _
theorem tfX12_ahead_293 (n0 : Nat) (hO : OKc p (rmL 2) s m args meth c LY D cy ad cX12_ahead RX12 6 2 none) (k204 : Int32 → Int32 → Int32 → Int32 → Int32 → Mem → Option (Mem)) (hk204 : ∀ (x1 : Int32) (x2 : Int32) (x3 : Int32) (x4 : Int32) (x5 : Int32) (M : Mem), BL p l e (rmL 2) s m args below meth c LY D cy ad 6 (QV LY D cy ad) 204 [(0, .ref (ad 0)), (1, .int x1), (2, .int x2), (3, .int x3), (4, .int x4), (5, .int x5)] [] M (k204 x1 x2 x3 x4 x5 M)) (x1 : Int32) (x2 : Int32) (x3 : Int32) (x4 : Int32) (x5 : Int32) (M : Mem) : BL p l e (rmL 2) s m args below meth c LY D cy ad 6 (QV LY D cy ad) 293 [(0, .ref (ad 0)), (1, .int x1), (2, .int x2), (3, .int x3), (4, .int x4), (5, .int x5)] [] M (fX12_ahead_293 n0 k204 x1 x2 x3 x4 x5 M) := by
  unfold fX12_ahead_293
  refine b_iload hO dX12_ahead_293 5 rfl ?_
  refine b_iload hO dX12_ahead_295 4 rfl ?_
  refine b_icmp_ge hO dX12_ahead_297 (tgt := 325) (by decide) ?_ ?_
  · exact tfX12_ahead_325 n0 hO k204 hk204 _ _ _ _ _ _
  · refine b_iload_n hO dX12_ahead_300 3 rfl rfl ?_
    refine b_if_eq hO dX12_ahead_301 (tgt := 325) (by decide) ?_ ?_
    · exact tfX12_ahead_325 n0 hO k204 hk204 _ _ _ _ _ _
    · refine b_aload_n hO dX12_ahead_304 0 rfl rfl ?_
      refine b_bipush hO dX12_ahead_305 ic_b_10 ?_
      refine b_aload_n hO dX12_ahead_307 0 rfl rfl ?_
      refine b_get hO flX12_29 kLY_0 (v := .int (gI _ 6)) rfl dX12_ahead_308 ?_
      refine b_imul hO dX12_ahead_311 ?_
      refine b_aload_n hO dX12_ahead_312 0 rfl rfl ?_
      refine b_get hO flX12_7 kLY_0 (v := .ref (ad 1)) rfl dX12_ahead_313 ?_
      refine b_iload_n hO dX12_ahead_316 1 rfl rfl ?_
      refine b_iald hO kLY_1 (n := 1800) rfl dX12_ahead_317 ?_
      refine b_iadd hO dX12_ahead_318 ?_
      refine b_bipush hO dX12_ahead_319 ic_b_48 ?_
      refine b_isub hO dX12_ahead_321 ?_
      refine b_putI hO flX12_29 kLY_0 rfl rfl rfl (id := 6) rfl dX12_ahead_322 ?_
      exact tfX12_ahead_325 n0 hO k204 hk204 _ _ _ _ _ _
theorem tfX12_ahead_263 (n0 : Nat) (hO : OKc p (rmL 2) s m args meth c LY D cy ad cX12_ahead RX12 6 2 none) (k204 : Int32 → Int32 → Int32 → Int32 → Int32 → Mem → Option (Mem)) (hk204 : ∀ (x1 : Int32) (x2 : Int32) (x3 : Int32) (x4 : Int32) (x5 : Int32) (M : Mem), BL p l e (rmL 2) s m args below meth c LY D cy ad 6 (QV LY D cy ad) 204 [(0, .ref (ad 0)), (1, .int x1), (2, .int x2), (3, .int x3), (4, .int x4), (5, .int x5)] [] M (k204 x1 x2 x3 x4 x5 M)) (x1 : Int32) (x2 : Int32) (x3 : Int32) (x4 : Int32) (x5 : Int32) (M : Mem) : BL p l e (rmL 2) s m args below meth c LY D cy ad 6 (QV LY D cy ad) 263 [(0, .ref (ad 0)), (1, .int x1), (2, .int x2), (3, .int x3), (4, .int x4), (5, .int x5)] [] M (fX12_ahead_263 n0 k204 x1 x2 x3 x4 x5 M) := by
  unfold fX12_ahead_263
  refine b_iload hO dX12_ahead_263 5 rfl ?_
  refine b_iload hO dX12_ahead_265 4 rfl ?_
  refine b_icmp_ge hO dX12_ahead_267 (tgt := 293) (by decide) ?_ ?_
  · exact tfX12_ahead_293 n0 hO k204 hk204 _ _ _ _ _ _
  · refine b_iload_n hO dX12_ahead_270 2 rfl rfl ?_
    refine b_if_eq hO dX12_ahead_271 (tgt := 293) (by decide) ?_ ?_
    · exact tfX12_ahead_293 n0 hO k204 hk204 _ _ _ _ _ _
    · refine b_aload_n hO dX12_ahead_274 0 rfl rfl ?_
      refine b_aload_n hO dX12_ahead_275 0 rfl rfl ?_
      refine b_get hO flX12_32 kLY_0 (v := .long (gL _ 7)) rfl dX12_ahead_276 ?_
      refine b_bipush hO dX12_ahead_279 ic_b_8 ?_
      refine b_lshl hO dX12_ahead_281 ?_
      refine b_aload_n hO dX12_ahead_282 0 rfl rfl ?_
      refine b_get hO flX12_7 kLY_0 (v := .ref (ad 1)) rfl dX12_ahead_283 ?_
      refine b_iload_n hO dX12_ahead_286 1 rfl rfl ?_
      refine b_iald hO kLY_1 (n := 1800) rfl dX12_ahead_287 ?_
      refine b_i2l hO dX12_ahead_288 ?_
      refine b_lor hO dX12_ahead_289 ?_
      refine b_putL hO flX12_32 kLY_0 rfl rfl rfl (id := 7) rfl dX12_ahead_290 ?_
      exact tfX12_ahead_293 n0 hO k204 hk204 _ _ _ _ _ _
theorem tfX12_ahead_243 (n0 : Nat) (hO : OKc p (rmL 2) s m args meth c LY D cy ad cX12_ahead RX12 6 2 none) (k204 : Int32 → Int32 → Int32 → Int32 → Int32 → Mem → Option (Mem)) (hk204 : ∀ (x1 : Int32) (x2 : Int32) (x3 : Int32) (x4 : Int32) (x5 : Int32) (M : Mem), BL p l e (rmL 2) s m args below meth c LY D cy ad 6 (QV LY D cy ad) 204 [(0, .ref (ad 0)), (1, .int x1), (2, .int x2), (3, .int x3), (4, .int x4), (5, .int x5)] [] M (k204 x1 x2 x3 x4 x5 M)) (x1 : Int32) (x2 : Int32) (x3 : Int32) (x4 : Int32) (x5 : Int32) (M : Mem) : BL p l e (rmL 2) s m args below meth c LY D cy ad 6 (QV LY D cy ad) 243 [(0, .ref (ad 0)), (1, .int x1), (2, .int x2), (3, .int x3), (4, .int x4), (5, .int x5)] [] M (fX12_ahead_243 n0 k204 x1 x2 x3 x4 x5 M) := by
  unfold fX12_ahead_243
  refine b_iload hO dX12_ahead_243 5 rfl ?_
  refine b_iload hO dX12_ahead_245 4 rfl ?_
  refine b_icmp_ne hO dX12_ahead_247 (tgt := 263) (by decide) ?_ ?_
  · exact tfX12_ahead_263 n0 hO k204 hk204 _ _ _ _ _ _
  · refine b_aload_n hO dX12_ahead_250 0 rfl rfl ?_
    refine b_get hO flX12_48 kLY_0 (v := .int (gI _ 12)) rfl dX12_ahead_251 ?_
    refine b_iconst hO dX12_ahead_254 ic_i_m1 ?_
    refine b_icmp_ne hO dX12_ahead_255 (tgt := 263) (by decide) ?_ ?_
    · exact tfX12_ahead_263 n0 hO k204 hk204 _ _ _ _ _ _
    · refine b_aload_n hO dX12_ahead_258 0 rfl rfl ?_
      refine b_iload_n hO dX12_ahead_259 1 rfl rfl ?_
      refine b_putI hO flX12_48 kLY_0 rfl rfl rfl (id := 12) rfl dX12_ahead_260 ?_
      exact tfX12_ahead_263 n0 hO k204 hk204 _ _ _ _ _ _
theorem tfX12_ahead_334 (n0 : Nat) (hO : OKc p (rmL 2) s m args meth c LY D cy ad cX12_ahead RX12 6 2 none) (x1 : Int32) (M : Mem) : BL p l e (rmL 2) s m args below meth c LY D cy ad 6 (QV LY D cy ad) 334 [(0, .ref (ad 0)), (1, .int x1)] [] M (fX12_ahead_334 n0 x1 M) := by
  unfold fX12_ahead_334
  refine b_aload_n hO dX12_ahead_334 0 rfl rfl ?_
  refine b_iload_n hO dX12_ahead_335 1 rfl rfl ?_
  refine b_putI hO flX12_26 kLY_0 rfl rfl rfl (id := 5) rfl dX12_ahead_336 ?_
  exact b_vret hO dX12_ahead_339
theorem tbX12_ahead_204 (n0 : Nat) (hO : OKc p (rmL 2) s m args meth c LY D cy ad cX12_ahead RX12 6 2 none) (k204 : Int32 → Int32 → Int32 → Int32 → Int32 → Mem → Option (Mem)) (hk204 : ∀ (x1 : Int32) (x2 : Int32) (x3 : Int32) (x4 : Int32) (x5 : Int32) (M : Mem), BL p l e (rmL 2) s m args below meth c LY D cy ad 6 (QV LY D cy ad) 204 [(0, .ref (ad 0)), (1, .int x1), (2, .int x2), (3, .int x3), (4, .int x4), (5, .int x5)] [] M (k204 x1 x2 x3 x4 x5 M)) (x1 : Int32) (x2 : Int32) (x3 : Int32) (x4 : Int32) (x5 : Int32) (M : Mem) : BL p l e (rmL 2) s m args below meth c LY D cy ad 6 (QV LY D cy ad) 204 [(0, .ref (ad 0)), (1, .int x1), (2, .int x2), (3, .int x3), (4, .int x4), (5, .int x5)] [] M (bX12_ahead_204 n0 k204 x1 x2 x3 x4 x5 M) := by
  unfold bX12_ahead_204
  refine b_iload_n hO dX12_ahead_204 1 rfl rfl ?_
  refine b_aload_n hO dX12_ahead_205 0 rfl rfl ?_
  refine b_get hO flX12_17 kLY_0 (v := .int (gI _ 2)) rfl dX12_ahead_206 ?_
  refine b_icmp_ge hO dX12_ahead_209 (tgt := 334) (by decide) ?_ ?_
  · refine b_sub [0, 1] rfl ?_
    exact tfX12_ahead_334 n0 hO _ _
  · refine b_iload_n hO dX12_ahead_212 2 rfl rfl ?_
    refine b_if_eq hO dX12_ahead_213 (tgt := 231) (by decide) ?_ ?_
    · refine b_aload_n hO dX12_ahead_231 0 rfl rfl ?_
      refine b_get hO flX12_7 kLY_0 (v := .ref (ad 1)) rfl dX12_ahead_232 ?_
      refine b_iload_n hO dX12_ahead_235 1 rfl rfl ?_
      refine b_iald hO kLY_1 (n := 1800) rfl dX12_ahead_236 ?_
      refine b_callSI hO mdX12_isDigit w1481 w1480 (As := [.int _]) (st := []) (ctX12_isDigit n0 hO.2.2.2.2.2.2.1 _ _) (Nat.le_of_ble_eq_true rfl) rfl rfl (Nat.le_of_ble_eq_true rfl) dX12_ahead_237 (fun z237 => ?_)
      refine b_if_eq hO dX12_ahead_240 (tgt := 334) (by decide) ?_ ?_
      · refine b_sub [0, 1] rfl ?_
        exact tfX12_ahead_334 n0 hO _ _
      · exact tfX12_ahead_243 n0 hO k204 hk204 _ _ _ _ _ _
    · refine b_aload_n hO dX12_ahead_216 0 rfl rfl ?_
      refine b_get hO flX12_7 kLY_0 (v := .ref (ad 1)) rfl dX12_ahead_217 ?_
      refine b_iload_n hO dX12_ahead_220 1 rfl rfl ?_
      refine b_iald hO kLY_1 (n := 1800) rfl dX12_ahead_221 ?_
      refine b_callSI hO mdX12_isLetter w1478 w1477 (As := [.int _]) (st := []) (ctX12_isLetter n0 hO.2.2.2.2.2.2.1 _ _) (Nat.le_of_ble_eq_true rfl) rfl rfl (Nat.le_of_ble_eq_true rfl) dX12_ahead_222 (fun z222 => ?_)
      refine b_if_eq hO dX12_ahead_225 (tgt := 334) (by decide) ?_ ?_
      · refine b_sub [0, 1] rfl ?_
        exact tfX12_ahead_334 n0 hO _ _
      · refine b_goto hO dX12_ahead_228 (tgt := 243) (by decide) ?_
        exact tfX12_ahead_243 n0 hO k204 hk204 _ _ _ _ _ _
theorem lX12_ahead_204 (n0 : Nat) (hO : OKc p (rmL 2) s m args meth c LY D cy ad cX12_ahead RX12 6 2 none) : ∀ (w : Nat) (x1 : Int32) (x2 : Int32) (x3 : Int32) (x4 : Int32) (x5 : Int32) (M : Mem), BL p l e (rmL 2) s m args below meth c LY D cy ad 6 (QV LY D cy ad) 204 [(0, .ref (ad 0)), (1, .int x1), (2, .int x2), (3, .int x3), (4, .int x4), (5, .int x5)] [] M (loopN (bX12_ahead_204 n0) (fun _ _ _ _ _ _ => none) w x1 x2 x3 x4 x5 M) := by
  intro w
  induction w with
  | zero =>
    intros
    exact b_none
  | succ w ih =>
    intro x1 x2 x3 x4 x5 M
    exact tbX12_ahead_204 n0 hO _ ih x1 x2 x3 x4 x5 M
theorem tfX12_ahead_204 (n0 : Nat) (hO : OKc p (rmL 2) s m args meth c LY D cy ad cX12_ahead RX12 6 2 none) (x1 : Int32) (x2 : Int32) (x3 : Int32) (x4 : Int32) (x5 : Int32) (M : Mem) : BL p l e (rmL 2) s m args below meth c LY D cy ad 6 (QV LY D cy ad) 204 [(0, .ref (ad 0)), (1, .int x1), (2, .int x2), (3, .int x3), (4, .int x4), (5, .int x5)] [] M (fX12_ahead_204 n0 x1 x2 x3 x4 x5 M) := lX12_ahead_204 n0 hO n0 x1 x2 x3 x4 x5 M
theorem tfX12_ahead_199 (n0 : Nat) (hO : OKc p (rmL 2) s m args meth c LY D cy ad cX12_ahead RX12 6 2 none) (x1 : Int32) (x2 : Int32) (x3 : Int32) (u0 : Int32) (M : Mem) : BL p l e (rmL 2) s m args below meth c LY D cy ad 6 (QV LY D cy ad) 199 [(0, .ref (ad 0)), (1, .int x1), (2, .int x2), (3, .int x3)] [.int u0] M (fX12_ahead_199 n0 x1 x2 x3 u0 M) := by
  unfold fX12_ahead_199
  refine b_istore hO dX12_ahead_199 (by decide) (lv' := [(4, .int _), (0, .ref _), (1, .int _), (2, .int _), (3, .int _)]) rfl ?_
  refine b_iconst hO dX12_ahead_201 ic_i_0 ?_
  refine b_istore hO dX12_ahead_202 (by decide) (lv' := [(5, .int _), (4, .int _), (0, .ref _), (1, .int _), (2, .int _), (3, .int _)]) rfl ?_
  refine b_sub [2, 3, 4, 5, 1, 0] rfl ?_
  exact tfX12_ahead_204 n0 hO _ _ _ _ _ _
theorem tfX12_ahead_186 (n0 : Nat) (hO : OKc p (rmL 2) s m args meth c LY D cy ad cX12_ahead RX12 6 2 none) (x1 : Int32) (x2 : Int32) (x3 : Int32) (u1 : Int32) (M : Mem) : BL p l e (rmL 2) s m args below meth c LY D cy ad 6 (QV LY D cy ad) 186 [(0, .ref (ad 0)), (1, .int x1), (2, .int x2), (3, .int x3)] [.int u1, .ref (ad 0)] M (fX12_ahead_186 n0 x1 x2 x3 u1 M) := by
  unfold fX12_ahead_186
  refine b_putI hO flX12_20 kLY_0 rfl rfl rfl (id := 3) rfl dX12_ahead_186 ?_
  refine b_bnd (fun M186 => ?_)
  refine b_iload_n hO dX12_ahead_189 2 rfl rfl ?_
  refine b_if_eq hO dX12_ahead_190 (tgt := 198) (by decide) ?_ ?_
  · refine b_iconst hO dX12_ahead_198 ic_i_4 ?_
    exact tfX12_ahead_199 n0 hO _ _ _ _ _
  · refine b_bipush hO dX12_ahead_193 ic_b_6 ?_
    refine b_goto hO dX12_ahead_195 (tgt := 199) (by decide) ?_
    exact tfX12_ahead_199 n0 hO _ _ _ _ _
theorem tfX12_ahead_176 (n0 : Nat) (hO : OKc p (rmL 2) s m args meth c LY D cy ad cX12_ahead RX12 6 2 none) (x1 : Int32) (x2 : Int32) (x3 : Int32) (M : Mem) : BL p l e (rmL 2) s m args below meth c LY D cy ad 6 (QV LY D cy ad) 176 [(0, .ref (ad 0)), (1, .int x1), (2, .int x2), (3, .int x3)] [] M (fX12_ahead_176 n0 x1 x2 x3 M) := by
  unfold fX12_ahead_176
  refine b_aload_n hO dX12_ahead_176 0 rfl rfl ?_
  refine b_iload_n hO dX12_ahead_177 2 rfl rfl ?_
  refine b_if_eq hO dX12_ahead_178 (tgt := 185) (by decide) ?_ ?_
  · refine b_iconst hO dX12_ahead_185 ic_i_2 ?_
    exact tfX12_ahead_186 n0 hO _ _ _ _ _
  · refine b_iconst hO dX12_ahead_181 ic_i_1 ?_
    refine b_goto hO dX12_ahead_182 (tgt := 186) (by decide) ?_
    exact tfX12_ahead_186 n0 hO _ _ _ _ _
theorem tfX12_ahead_135 (n0 : Nat) (hO : OKc p (rmL 2) s m args meth c LY D cy ad cX12_ahead RX12 6 2 none) (x1 : Int32) (x2 : Int32) (x3 : Int32) (M : Mem) : BL p l e (rmL 2) s m args below meth c LY D cy ad 6 (QV LY D cy ad) 135 [(0, .ref (ad 0)), (1, .int x1), (2, .int x2), (3, .int x3)] [] M (fX12_ahead_135 n0 x1 x2 x3 M) := by
  unfold fX12_ahead_135
  refine b_aload_n hO dX12_ahead_135 0 rfl rfl ?_
  refine b_iconst hO dX12_ahead_136 ic_i_0 ?_
  refine b_putI hO flX12_29 kLY_0 rfl rfl rfl (id := 6) rfl dX12_ahead_137 ?_
  refine b_bnd (fun M137 => ?_)
  refine b_aload_n hO dX12_ahead_140 0 rfl rfl ?_
  refine b_lconst hO dX12_ahead_141 (v := 0) rfl ?_
  refine b_putL hO flX12_32 kLY_0 rfl rfl rfl (id := 7) rfl dX12_ahead_142 ?_
  refine b_bnd (fun M142 => ?_)
  refine b_aload_n hO dX12_ahead_145 0 rfl rfl ?_
  refine b_iconst hO dX12_ahead_146 ic_i_3 ?_
  refine b_putI hO flX12_20 kLY_0 rfl rfl rfl (id := 3) rfl dX12_ahead_147 ?_
  refine b_bnd (fun M147 => ?_)
  refine b_aload_n hO dX12_ahead_150 0 rfl rfl ?_
  refine b_iload_n hO dX12_ahead_151 1 rfl rfl ?_
  refine b_iconst hO dX12_ahead_152 ic_i_1 ?_
  refine b_iadd hO dX12_ahead_153 ?_
  refine b_putI hO flX12_26 kLY_0 rfl rfl rfl (id := 5) rfl dX12_ahead_154 ?_
  refine b_bnd (fun M154 => ?_)
  refine b_iload_n hO dX12_ahead_157 2 rfl rfl ?_
  refine b_if_ne hO dX12_ahead_158 (tgt := 176) (by decide) ?_ ?_
  · exact tfX12_ahead_176 n0 hO _ _ _ _
  · refine b_iload_n hO dX12_ahead_161 3 rfl rfl ?_
    refine b_if_ne hO dX12_ahead_162 (tgt := 176) (by decide) ?_ ?_
    · exact tfX12_ahead_176 n0 hO _ _ _ _
    · refine b_aload_n hO dX12_ahead_165 0 rfl rfl ?_
      refine b_aload_n hO dX12_ahead_166 0 rfl rfl ?_
      refine b_get hO flX12_7 kLY_0 (v := .ref (ad 1)) rfl dX12_ahead_167 ?_
      refine b_iload_n hO dX12_ahead_170 1 rfl rfl ?_
      refine b_iald hO kLY_1 (n := 1800) rfl dX12_ahead_171 ?_
      refine b_putI hO flX12_29 kLY_0 rfl rfl rfl (id := 6) rfl dX12_ahead_172 ?_
      exact b_vret hO dX12_ahead_175
theorem tfX12_ahead_130 (n0 : Nat) (hO : OKc p (rmL 2) s m args meth c LY D cy ad cX12_ahead RX12 6 2 none) (x1 : Int32) (x2 : Int32) (x3 : Int32) (M : Mem) : BL p l e (rmL 2) s m args below meth c LY D cy ad 6 (QV LY D cy ad) 130 [(0, .ref (ad 0)), (1, .int x1), (2, .int x2), (3, .int x3)] [] M (fX12_ahead_130 n0 x1 x2 x3 M) := by
  unfold fX12_ahead_130
  refine b_aload_n hO dX12_ahead_130 0 rfl rfl ?_
  refine b_iload_n hO dX12_ahead_131 1 rfl rfl ?_
  refine b_putI hO flX12_48 kLY_0 rfl rfl rfl (id := 12) rfl dX12_ahead_132 ?_
  exact tfX12_ahead_135 n0 hO _ _ _ _
theorem tfX12_ahead_98 (n0 : Nat) (hO : OKc p (rmL 2) s m args meth c LY D cy ad cX12_ahead RX12 6 2 none) (x1 : Int32) (x2 : Int32) (x3 : Int32) (M : Mem) : BL p l e (rmL 2) s m args below meth c LY D cy ad 6 (QV LY D cy ad) 98 [(0, .ref (ad 0)), (1, .int x1), (2, .int x2), (3, .int x3)] [] M (fX12_ahead_98 n0 x1 x2 x3 M) := by
  unfold fX12_ahead_98
  refine b_iload_n hO dX12_ahead_98 1 rfl rfl ?_
  refine b_if_le hO dX12_ahead_99 (tgt := 135) (by decide) ?_ ?_
  · exact tfX12_ahead_135 n0 hO _ _ _ _
  · refine b_aload_n hO dX12_ahead_102 0 rfl rfl ?_
    refine b_get hO flX12_7 kLY_0 (v := .ref (ad 1)) rfl dX12_ahead_103 ?_
    refine b_iload_n hO dX12_ahead_106 1 rfl rfl ?_
    refine b_iconst hO dX12_ahead_107 ic_i_1 ?_
    refine b_isub hO dX12_ahead_108 ?_
    refine b_iald hO kLY_1 (n := 1800) rfl dX12_ahead_109 ?_
    refine b_callSI hO mdX12_isLetter w1478 w1477 (As := [.int _]) (st := []) (ctX12_isLetter n0 hO.2.2.2.2.2.2.1 _ _) (Nat.le_of_ble_eq_true rfl) rfl rfl (Nat.le_of_ble_eq_true rfl) dX12_ahead_110 (fun z110 => ?_)
    refine b_if_ne hO dX12_ahead_113 (tgt := 130) (by decide) ?_ ?_
    · exact tfX12_ahead_130 n0 hO _ _ _ _
    · refine b_aload_n hO dX12_ahead_116 0 rfl rfl ?_
      refine b_get hO flX12_7 kLY_0 (v := .ref (ad 1)) rfl dX12_ahead_117 ?_
      refine b_iload_n hO dX12_ahead_120 1 rfl rfl ?_
      refine b_iconst hO dX12_ahead_121 ic_i_1 ?_
      refine b_isub hO dX12_ahead_122 ?_
      refine b_iald hO kLY_1 (n := 1800) rfl dX12_ahead_123 ?_
      refine b_callSI hO mdX12_isDigit w1481 w1480 (As := [.int _]) (st := []) (ctX12_isDigit n0 hO.2.2.2.2.2.2.1 _ _) (Nat.le_of_ble_eq_true rfl) rfl rfl (Nat.le_of_ble_eq_true rfl) dX12_ahead_124 (fun z124 => ?_)
      refine b_if_eq hO dX12_ahead_127 (tgt := 135) (by decide) ?_ ?_
      · exact tfX12_ahead_135 n0 hO _ _ _ _
      · exact tfX12_ahead_130 n0 hO _ _ _ _
theorem tfX12_ahead_41 (n0 : Nat) (hO : OKc p (rmL 2) s m args meth c LY D cy ad cX12_ahead RX12 6 2 none) (x1 : Int32) (M : Mem) : BL p l e (rmL 2) s m args below meth c LY D cy ad 6 (QV LY D cy ad) 41 [(0, .ref (ad 0)), (1, .int x1)] [] M (fX12_ahead_41 n0 x1 M) := by
  unfold fX12_ahead_41
  refine b_aload_n hO dX12_ahead_41 0 rfl rfl ?_
  refine b_iload_n hO dX12_ahead_42 1 rfl rfl ?_
  refine b_putI hO flX12_23 kLY_0 rfl rfl rfl (id := 4) rfl dX12_ahead_43 ?_
  refine b_bnd (fun M43 => ?_)
  refine b_aload_n hO dX12_ahead_46 0 rfl rfl ?_
  refine b_iload_n hO dX12_ahead_47 1 rfl rfl ?_
  refine b_putI hO flX12_26 kLY_0 rfl rfl rfl (id := 5) rfl dX12_ahead_48 ?_
  refine b_bnd (fun M48 => ?_)
  refine b_aload_n hO dX12_ahead_51 0 rfl rfl ?_
  refine b_iconst hO dX12_ahead_52 ic_i_0 ?_
  refine b_putI hO flX12_20 kLY_0 rfl rfl rfl (id := 3) rfl dX12_ahead_53 ?_
  refine b_bnd (fun M53 => ?_)
  refine b_aload_n hO dX12_ahead_56 0 rfl rfl ?_
  refine b_iconst hO dX12_ahead_57 ic_i_m1 ?_
  refine b_putI hO flX12_48 kLY_0 rfl rfl rfl (id := 12) rfl dX12_ahead_58 ?_
  refine b_bnd (fun M58 => ?_)
  refine b_iload_n hO dX12_ahead_61 1 rfl rfl ?_
  refine b_aload_n hO dX12_ahead_62 0 rfl rfl ?_
  refine b_get hO flX12_17 kLY_0 (v := .int (gI _ 2)) rfl dX12_ahead_63 ?_
  refine b_icmp_lt hO dX12_ahead_66 (tgt := 70) (by decide) ?_ ?_
  · refine b_aload_n hO dX12_ahead_70 0 rfl rfl ?_
    refine b_get hO flX12_7 kLY_0 (v := .ref (ad 1)) rfl dX12_ahead_71 ?_
    refine b_iload_n hO dX12_ahead_74 1 rfl rfl ?_
    refine b_iald hO kLY_1 (n := 1800) rfl dX12_ahead_75 ?_
    refine b_callSI hO mdX12_isLetter w1478 w1477 (As := [.int _]) (st := []) (ctX12_isLetter n0 hO.2.2.2.2.2.2.1 _ _) (Nat.le_of_ble_eq_true rfl) rfl rfl (Nat.le_of_ble_eq_true rfl) dX12_ahead_76 (fun z76 => ?_)
    refine b_istore_n hO dX12_ahead_79 rfl (by decide) (lv' := [(2, .int _), (0, .ref _), (1, .int _)]) rfl ?_
    refine b_aload_n hO dX12_ahead_80 1 rfl rfl ?_
    refine b_get hO flX12_7 kLY_0 (v := .ref (ad 1)) rfl dX12_ahead_81 ?_
    refine b_iload_n hO dX12_ahead_84 2 rfl rfl ?_
    refine b_iald hO kLY_1 (n := 1800) rfl dX12_ahead_85 ?_
    refine b_callSI hO mdX12_isDigit w1481 w1480 (As := [.int _]) (st := []) (ctX12_isDigit n0 hO.2.2.2.2.2.2.1 _ _) (Nat.le_of_ble_eq_true rfl) rfl rfl (Nat.le_of_ble_eq_true rfl) dX12_ahead_86 (fun z86 => ?_)
    refine b_istore_n hO dX12_ahead_89 rfl (by decide) (lv' := [(3, .int _), (2, .int _), (0, .ref _), (1, .int _)]) rfl ?_
    refine b_iload_n hO dX12_ahead_90 1 rfl rfl ?_
    refine b_if_ne hO dX12_ahead_91 (tgt := 98) (by decide) ?_ ?_
    · refine b_sub [2, 3, 1, 0] rfl ?_
      exact tfX12_ahead_98 n0 hO _ _ _ _
    · refine b_iload_n hO dX12_ahead_94 0 rfl rfl ?_
      refine b_if_eq hO dX12_ahead_95 (tgt := 135) (by decide) ?_ ?_
      · refine b_sub [2, 3, 1, 0] rfl ?_
        exact tfX12_ahead_135 n0 hO _ _ _ _
      · refine b_sub [2, 3, 1, 0] rfl ?_
        exact tfX12_ahead_98 n0 hO _ _ _ _
  · exact b_vret hO dX12_ahead_69
theorem tbX12_ahead_5 (n0 : Nat) (hO : OKc p (rmL 2) s m args meth c LY D cy ad cX12_ahead RX12 6 2 none) (k5 : Int32 → Mem → Option (Mem)) (hk5 : ∀ (x1 : Int32) (M : Mem), BL p l e (rmL 2) s m args below meth c LY D cy ad 6 (QV LY D cy ad) 5 [(0, .ref (ad 0)), (1, .int x1)] [] M (k5 x1 M)) (x1 : Int32) (M : Mem) : BL p l e (rmL 2) s m args below meth c LY D cy ad 6 (QV LY D cy ad) 5 [(0, .ref (ad 0)), (1, .int x1)] [] M (bX12_ahead_5 n0 k5 x1 M) := by
  unfold bX12_ahead_5
  refine b_iload_n hO dX12_ahead_5 1 rfl rfl ?_
  refine b_aload_n hO dX12_ahead_6 0 rfl rfl ?_
  refine b_get hO flX12_17 kLY_0 (v := .int (gI _ 2)) rfl dX12_ahead_7 ?_
  refine b_icmp_ge hO dX12_ahead_10 (tgt := 41) (by decide) ?_ ?_
  · exact tfX12_ahead_41 n0 hO _ _
  · refine b_aload_n hO dX12_ahead_13 0 rfl rfl ?_
    refine b_get hO flX12_7 kLY_0 (v := .ref (ad 1)) rfl dX12_ahead_14 ?_
    refine b_iload_n hO dX12_ahead_17 1 rfl rfl ?_
    refine b_iald hO kLY_1 (n := 1800) rfl dX12_ahead_18 ?_
    refine b_bipush hO dX12_ahead_19 ic_b_32 ?_
    refine b_icmp_eq hO dX12_ahead_21 (tgt := 35) (by decide) ?_ ?_
    · exact tfX12_ahead_35 n0 hO k5 hk5 _ _
    · refine b_aload_n hO dX12_ahead_24 0 rfl rfl ?_
      refine b_get hO flX12_7 kLY_0 (v := .ref (ad 1)) rfl dX12_ahead_25 ?_
      refine b_iload_n hO dX12_ahead_28 1 rfl rfl ?_
      refine b_iald hO kLY_1 (n := 1800) rfl dX12_ahead_29 ?_
      refine b_bipush hO dX12_ahead_30 ic_b_10 ?_
      refine b_icmp_ne hO dX12_ahead_32 (tgt := 41) (by decide) ?_ ?_
      · exact tfX12_ahead_41 n0 hO _ _
      · exact tfX12_ahead_35 n0 hO k5 hk5 _ _
theorem lX12_ahead_5 (n0 : Nat) (hO : OKc p (rmL 2) s m args meth c LY D cy ad cX12_ahead RX12 6 2 none) : ∀ (w : Nat) (x1 : Int32) (M : Mem), BL p l e (rmL 2) s m args below meth c LY D cy ad 6 (QV LY D cy ad) 5 [(0, .ref (ad 0)), (1, .int x1)] [] M (loopN (bX12_ahead_5 n0) (fun _ _ => none) w x1 M) := by
  intro w
  induction w with
  | zero =>
    intros
    exact b_none
  | succ w ih =>
    intro x1 M
    exact tbX12_ahead_5 n0 hO _ ih x1 M
theorem tfX12_ahead_5 (n0 : Nat) (hO : OKc p (rmL 2) s m args meth c LY D cy ad cX12_ahead RX12 6 2 none) (x1 : Int32) (M : Mem) : BL p l e (rmL 2) s m args below meth c LY D cy ad 6 (QV LY D cy ad) 5 [(0, .ref (ad 0)), (1, .int x1)] [] M (fX12_ahead_5 n0 x1 M) := lX12_ahead_5 n0 hO n0 x1 M
theorem tfX12_ahead (n0 : Nat) (hO : OKc p (rmL 2) s m args meth c LY D cy ad cX12_ahead RX12 6 2 none) (M : Mem) : BL p l e (rmL 2) s m args below meth c LY D cy ad 6 (QV LY D cy ad) 0 [(0, .ref (ad 0))] [] M (fX12_ahead n0 M) := by
  unfold fX12_ahead
  refine b_aload_n hO dX12_ahead_0 0 rfl rfl ?_
  refine b_get hO flX12_26 kLY_0 (v := .int (gI _ 5)) rfl dX12_ahead_1 ?_
  refine b_topI (fun x1_4 => ?_)
  refine b_istore_n hO dX12_ahead_4 rfl (by decide) (lv' := [(1, .int _), (0, .ref _)]) rfl ?_
  refine b_sub [1, 0] rfl ?_
  exact tfX12_ahead_5 n0 hO _ _
theorem ctX12_ahead (n0 : Nat) (hI : Inj LY ad) (M : Mem) : CT l LY D cy ad yX12_ahead cX12_ahead 6 none 2 (QV LY D cy ad) [.ref (ad 0)] M (fX12_ahead n0 M) :=
  CT.mk LYok hI (by decide) (Nat.le_of_ble_eq_true rfl) (fun hO => tfX12_ahead n0 hO M)
/-! X12_isSign -/
def fX12_isSign (n0 : Nat) (x1 : Int32) (M : Mem) : Option (Int32 × Mem) :=
  if (gI M 3) = (3 : Int32) then
    if (gI M 6) = x1 then
      some ((1 : Int32), M)
    else
      some ((0 : Int32), M)
  else
    some ((0 : Int32), M)
theorem tfX12_isSign (n0 : Nat) (hO : OKc p (rmL 1) s m args meth c LY D cy ad cX12_isSign RX12 2 1 (some .boolean)) (x1 : Int32) (M : Mem) : BL p l e (rmL 1) s m args below meth c LY D cy ad 2 (QI LY D cy ad) 0 [(0, .ref (ad 0)), (1, .int x1)] [] M (fX12_isSign n0 x1 M) := by
  unfold fX12_isSign
  refine b_aload_n hO dX12_isSign_0 0 rfl rfl ?_
  refine b_get hO flX12_20 kLY_0 (v := .int (gI _ 3)) rfl dX12_isSign_1 ?_
  refine b_iconst hO dX12_isSign_4 ic_i_3 ?_
  refine b_icmp_ne hO dX12_isSign_5 (tgt := 20) (by decide) ?_ ?_
  · refine b_iconst hO dX12_isSign_20 ic_i_0 ?_
    exact b_zretc hO (Or.inl rfl) dX12_isSign_21
  · refine b_aload_n hO dX12_isSign_8 0 rfl rfl ?_
    refine b_get hO flX12_29 kLY_0 (v := .int (gI _ 6)) rfl dX12_isSign_9 ?_
    refine b_iload_n hO dX12_isSign_12 1 rfl rfl ?_
    refine b_icmp_ne hO dX12_isSign_13 (tgt := 20) (by decide) ?_ ?_
    · refine b_iconst hO dX12_isSign_20 ic_i_0 ?_
      exact b_zretc hO (Or.inl rfl) dX12_isSign_21
    · refine b_iconst hO dX12_isSign_16 ic_i_1 ?_
      refine b_goto hO dX12_isSign_17 (tgt := 21) (by decide) ?_
      exact b_zretc hO (Or.inr rfl) dX12_isSign_21
theorem ctX12_isSign (n0 : Nat) (hI : Inj LY ad) (x1 : Int32) (M : Mem) : CT l LY D cy ad yX12_isSign cX12_isSign 2 (some .boolean) 1 (QI LY D cy ad) [.ref (ad 0), .int x1] M (fX12_isSign n0 x1 M) :=
  CT.mk LYok hI (by decide) (Nat.le_of_ble_eq_true rfl) (fun hO => tfX12_isSign n0 hO x1 M)
/-! X12_isWord -/
def fX12_isWord (n0 : Nat) (y1 : Int64) (M : Mem) : Option (Int32 × Mem) :=
  if (gI M 3) = (1 : Int32) then
    if (lg_cmp (gL M 7) y1) = 0 then
      some ((1 : Int32), M)
    else
      some ((0 : Int32), M)
  else
    some ((0 : Int32), M)
theorem tfX12_isWord (n0 : Nat) (hO : OKc p (rmL 1) s m args meth c LY D cy ad cX12_isWord RX12 3 1 (some .boolean)) (y1 : Int64) (M : Mem) : BL p l e (rmL 1) s m args below meth c LY D cy ad 3 (QI LY D cy ad) 0 [(0, .ref (ad 0)), (1, .long y1)] [] M (fX12_isWord n0 y1 M) := by
  unfold fX12_isWord
  refine b_aload_n hO dX12_isWord_0 0 rfl rfl ?_
  refine b_get hO flX12_20 kLY_0 (v := .int (gI _ 3)) rfl dX12_isWord_1 ?_
  refine b_iconst hO dX12_isWord_4 ic_i_1 ?_
  refine b_icmp_ne hO dX12_isWord_5 (tgt := 21) (by decide) ?_ ?_
  · refine b_iconst hO dX12_isWord_21 ic_i_0 ?_
    exact b_zretc hO (Or.inl rfl) dX12_isWord_22
  · refine b_aload_n hO dX12_isWord_8 0 rfl rfl ?_
    refine b_get hO flX12_32 kLY_0 (v := .long (gL _ 7)) rfl dX12_isWord_9 ?_
    refine b_lload_n hO dX12_isWord_12 1 rfl rfl ?_
    refine b_lcmp hO dX12_isWord_13 ?_
    refine b_if_ne hO dX12_isWord_14 (tgt := 21) (by decide) ?_ ?_
    · refine b_iconst hO dX12_isWord_21 ic_i_0 ?_
      exact b_zretc hO (Or.inl rfl) dX12_isWord_22
    · refine b_iconst hO dX12_isWord_17 ic_i_1 ?_
      refine b_goto hO dX12_isWord_18 (tgt := 22) (by decide) ?_
      exact b_zretc hO (Or.inr rfl) dX12_isWord_22
theorem ctX12_isWord (n0 : Nat) (hI : Inj LY ad) (y1 : Int64) (M : Mem) : CT l LY D cy ad yX12_isWord cX12_isWord 3 (some .boolean) 1 (QI LY D cy ad) [.ref (ad 0), .long y1] M (fX12_isWord n0 y1 M) :=
  CT.mk LYok hI (by decide) (Nat.le_of_ble_eq_true rfl) (fun hO => tfX12_isWord n0 hO y1 M)
/-! X12_must -/
def fX12_must_21 (n0 : Nat) (M : Mem) : Option (Mem) :=
  if (gI M 8) = 0 then
    (fX12_ahead n0 M).bind fun z29 =>
    some z29
  else
    some M
def fX12_must (n0 : Nat) (x1 : Int32) (M : Mem) : Option (Mem) :=
  (fX12_lex n0 M).bind fun z1 =>
  (fX12_isSign n0 x1 z1).bind fun z6 =>
  if z6.1 = 0 then
    (fX12_blame n0 (1 : Int32) (gI z6.2 4) z6.2).bind fun z18 =>
    fX12_must_21 n0 z18
  else
    fX12_must_21 n0 z6.2
theorem tfX12_must_21 (n0 : Nat) (hO : OKc p (rmL 3) s m args meth c LY D cy ad cX12_must RX12 2 3 none) (M : Mem) : BL p l e (rmL 3) s m args below meth c LY D cy ad 2 (QV LY D cy ad) 21 [(0, .ref (ad 0))] [] M (fX12_must_21 n0 M) := by
  unfold fX12_must_21
  refine b_aload_n hO dX12_must_21 0 rfl rfl ?_
  refine b_get hO flX12_36 kLY_0 (v := .int (gI _ 8)) rfl dX12_must_22 ?_
  refine b_if_ne hO dX12_must_25 (tgt := 32) (by decide) ?_ ?_
  · exact b_vret hO dX12_must_32
  · refine b_aload_n hO dX12_must_28 0 rfl rfl ?_
    refine b_callVV hO mdX12_ahead mvX12_ahead w1473 (ci := 12) rfl rfl (by decide) kLY_0 (As := []) (st := []) (ctX12_ahead n0 hO.2.2.2.2.2.2.1 _) (Nat.le_of_ble_eq_true rfl) rfl rfl (Nat.le_of_ble_eq_true rfl) dX12_must_29 (fun z29 => ?_)
    exact b_vret hO dX12_must_32
theorem tfX12_must (n0 : Nat) (hO : OKc p (rmL 3) s m args meth c LY D cy ad cX12_must RX12 2 3 none) (x1 : Int32) (M : Mem) : BL p l e (rmL 3) s m args below meth c LY D cy ad 2 (QV LY D cy ad) 0 [(0, .ref (ad 0)), (1, .int x1)] [] M (fX12_must n0 x1 M) := by
  unfold fX12_must
  refine b_aload_n hO dX12_must_0 0 rfl rfl ?_
  refine b_callVV hO mdX12_lex mvX12_lex w1487 (ci := 12) rfl rfl (by decide) kLY_0 (As := []) (st := []) (ctX12_lex n0 hO.2.2.2.2.2.2.1 _) (Nat.le_of_ble_eq_true rfl) rfl rfl (Nat.le_of_ble_eq_true rfl) dX12_must_1 (fun z1 => ?_)
  refine b_aload_n hO dX12_must_4 0 rfl rfl ?_
  refine b_iload_n hO dX12_must_5 1 rfl rfl ?_
  refine b_callVI hO mdX12_isSign mvX12_isSign w1609 (ci := 12) rfl rfl (by decide) kLY_0 (As := [.int _]) (st := []) (ctX12_isSign n0 hO.2.2.2.2.2.2.1 _ _) (Nat.le_of_ble_eq_true rfl) rfl rfl (Nat.le_of_ble_eq_true rfl) dX12_must_6 (fun z6 => ?_)
  refine b_if_ne hO dX12_must_9 (tgt := 21) (by decide) ?_ ?_
  · refine b_sub [0] rfl ?_
    exact tfX12_must_21 n0 hO _
  · refine b_aload_n hO dX12_must_12 0 rfl rfl ?_
    refine b_iconst hO dX12_must_13 ic_i_1 ?_
    refine b_aload_n hO dX12_must_14 0 rfl rfl ?_
    refine b_get hO flX12_23 kLY_0 (v := .int (gI _ 4)) rfl dX12_must_15 ?_
    refine b_callVV hO mdX12_blame mvX12_blame w1491 (ci := 12) rfl rfl (by decide) kLY_0 (As := [.int _, .int _]) (st := []) (ctX12_blame n0 hO.2.2.2.2.2.2.1 _ _ _) (Nat.le_of_ble_eq_true rfl) rfl rfl (Nat.le_of_ble_eq_true rfl) dX12_must_18 (fun z18 => ?_)
    refine b_sub [0] rfl ?_
    exact tfX12_must_21 n0 hO _
theorem ctX12_must (n0 : Nat) (hI : Inj LY ad) (x1 : Int32) (M : Mem) : CT l LY D cy ad yX12_must cX12_must 2 none 3 (QV LY D cy ad) [.ref (ad 0), .int x1] M (fX12_must n0 x1 M) :=
  CT.mk LYok hI (by decide) (Nat.le_of_ble_eq_true rfl) (fun hO => tfX12_must n0 hO x1 M)
/-! X12_isOwn -/
def fX12_isOwn (n0 : Nat) (y1 : Int64) (M : Mem) : Option (Int32 × Mem) :=
  if (lg_cmp y1 (499967946343 : Int64)) = 0 then
    some ((1 : Int32), M)
  else
    if (lg_cmp y1 (512802514792 : Int64)) = 0 then
      some ((1 : Int32), M)
    else
      if (lg_cmp y1 (465491424371 : Int64)) = 0 then
        some ((1 : Int32), M)
      else
        if (lg_cmp y1 (109330312357234 : Int64)) = 0 then
          some ((1 : Int32), M)
        else
          if (lg_cmp y1 (1919902052 : Int64)) = 0 then
            some ((1 : Int32), M)
          else
            if (lg_cmp y1 (29807 : Int64)) = 0 then
              some ((1 : Int32), M)
            else
              if (lg_cmp y1 (495874044019 : Int64)) = 0 then
                some ((1 : Int32), M)
              else
                if (lg_cmp y1 (1885432941 : Int64)) = 0 then
                  some ((1 : Int32), M)
                else
                  if (lg_cmp y1 (6840691 : Int64)) = 0 then
                    some ((1 : Int32), M)
                  else
                    if (lg_cmp y1 (431365910119 : Int64)) = 0 then
                      some ((1 : Int32), M)
                    else
                      if (lg_cmp y1 (24948 : Int64)) = 0 then
                        some ((1 : Int32), M)
                      else
                        if (lg_cmp y1 (1752135026 : Int64)) = 0 then
                          some ((1 : Int32), M)
                        else
                          if (lg_cmp y1 (1935767923 : Int64)) = 0 then
                            some ((1 : Int32), M)
                          else
                            if (lg_cmp y1 (1735356005 : Int64)) = 0 then
                              some ((1 : Int32), M)
                            else
                              if (lg_cmp y1 (1885434739 : Int64)) = 0 then
                                some ((1 : Int32), M)
                              else
                                if (lg_cmp y1 (1751477348 : Int64)) = 0 then
                                  some ((1 : Int32), M)
                                else
                                  if (lg_cmp y1 (120299592184933 : Int64)) = 0 then
                                    some ((1 : Int32), M)
                                  else
                                    if (lg_cmp y1 (435627783289 : Int64)) = 0 then
                                      some ((1 : Int32), M)
                                    else
                                      if (lg_cmp y1 (26982 : Int64)) = 0 then
                                        some ((1 : Int32), M)
                                      else
                                        if (lg_cmp y1 (28530 : Int64)) = 0 then
                                          some ((1 : Int32), M)
                                        else
                                          if (lg_cmp y1 (6385252 : Int64)) = 0 then
                                            some ((1 : Int32), M)
                                          else
                                            if (lg_cmp y1 (7237492 : Int64)) = 0 then
                                              some ((1 : Int32), M)
                                            else
                                              if (lg_cmp y1 (6384748 : Int64)) = 0 then
                                                some ((1 : Int32), M)
                                              else
                                                if (lg_cmp y1 (7170414 : Int64)) = 0 then
                                                  some ((1 : Int32), M)
                                                else
                                                  if (lg_cmp y1 (7168376 : Int64)) = 0 then
                                                    some ((1 : Int32), M)
                                                  else
                                                    some ((0 : Int32), M)
theorem tfX12_isOwn (n0 : Nat) (hO : OKc p (rmL 1) s m args meth c LY D cy ad cX12_isOwn RX12 3 1 (some .boolean)) (y1 : Int64) (M : Mem) : BL p l e (rmL 1) s m args below meth c LY D cy ad 3 (QI LY D cy ad) 0 [(0, .ref (ad 0)), (1, .long y1)] [] M (fX12_isOwn n0 y1 M) := by
  unfold fX12_isOwn
  refine b_lload_n hO dX12_isOwn_0 1 rfl rfl ?_
  refine b_ldc2 hO w1495 dX12_isOwn_1 ?_
  refine b_lcmp hO dX12_isOwn_4 ?_
  refine b_if_eq hO dX12_isOwn_5 (tgt := 40) (by decide) ?_ ?_
  · refine b_iconst hO dX12_isOwn_40 ic_i_1 ?_
    exact b_zretc hO (Or.inr rfl) dX12_isOwn_41
  · refine b_lload_n hO dX12_isOwn_8 1 rfl rfl ?_
    refine b_ldc2 hO w1516 dX12_isOwn_9 ?_
    refine b_lcmp hO dX12_isOwn_12 ?_
    refine b_if_eq hO dX12_isOwn_13 (tgt := 40) (by decide) ?_ ?_
    · refine b_iconst hO dX12_isOwn_40 ic_i_1 ?_
      exact b_zretc hO (Or.inr rfl) dX12_isOwn_41
    · refine b_lload_n hO dX12_isOwn_16 1 rfl rfl ?_
      refine b_ldc2 hO w1517 dX12_isOwn_17 ?_
      refine b_lcmp hO dX12_isOwn_20 ?_
      refine b_if_eq hO dX12_isOwn_21 (tgt := 40) (by decide) ?_ ?_
      · refine b_iconst hO dX12_isOwn_40 ic_i_1 ?_
        exact b_zretc hO (Or.inr rfl) dX12_isOwn_41
      · refine b_lload_n hO dX12_isOwn_24 1 rfl rfl ?_
        refine b_ldc2 hO w1518 dX12_isOwn_25 ?_
        refine b_lcmp hO dX12_isOwn_28 ?_
        refine b_if_eq hO dX12_isOwn_29 (tgt := 40) (by decide) ?_ ?_
        · refine b_iconst hO dX12_isOwn_40 ic_i_1 ?_
          exact b_zretc hO (Or.inr rfl) dX12_isOwn_41
        · refine b_lload_n hO dX12_isOwn_32 1 rfl rfl ?_
          refine b_ldc2 hO w1519 dX12_isOwn_33 ?_
          refine b_lcmp hO dX12_isOwn_36 ?_
          refine b_if_ne hO dX12_isOwn_37 (tgt := 42) (by decide) ?_ ?_
          · refine b_lload_n hO dX12_isOwn_42 1 rfl rfl ?_
            refine b_ldc2 hO w1520 dX12_isOwn_43 ?_
            refine b_lcmp hO dX12_isOwn_46 ?_
            refine b_if_eq hO dX12_isOwn_47 (tgt := 82) (by decide) ?_ ?_
            · refine b_iconst hO dX12_isOwn_82 ic_i_1 ?_
              exact b_zretc hO (Or.inr rfl) dX12_isOwn_83
            · refine b_lload_n hO dX12_isOwn_50 1 rfl rfl ?_
              refine b_ldc2 hO w1521 dX12_isOwn_51 ?_
              refine b_lcmp hO dX12_isOwn_54 ?_
              refine b_if_eq hO dX12_isOwn_55 (tgt := 82) (by decide) ?_ ?_
              · refine b_iconst hO dX12_isOwn_82 ic_i_1 ?_
                exact b_zretc hO (Or.inr rfl) dX12_isOwn_83
              · refine b_lload_n hO dX12_isOwn_58 1 rfl rfl ?_
                refine b_ldc2 hO w1522 dX12_isOwn_59 ?_
                refine b_lcmp hO dX12_isOwn_62 ?_
                refine b_if_eq hO dX12_isOwn_63 (tgt := 82) (by decide) ?_ ?_
                · refine b_iconst hO dX12_isOwn_82 ic_i_1 ?_
                  exact b_zretc hO (Or.inr rfl) dX12_isOwn_83
                · refine b_lload_n hO dX12_isOwn_66 1 rfl rfl ?_
                  refine b_ldc2 hO w1523 dX12_isOwn_67 ?_
                  refine b_lcmp hO dX12_isOwn_70 ?_
                  refine b_if_eq hO dX12_isOwn_71 (tgt := 82) (by decide) ?_ ?_
                  · refine b_iconst hO dX12_isOwn_82 ic_i_1 ?_
                    exact b_zretc hO (Or.inr rfl) dX12_isOwn_83
                  · refine b_lload_n hO dX12_isOwn_74 1 rfl rfl ?_
                    refine b_ldc2 hO w1524 dX12_isOwn_75 ?_
                    refine b_lcmp hO dX12_isOwn_78 ?_
                    refine b_if_ne hO dX12_isOwn_79 (tgt := 84) (by decide) ?_ ?_
                    · refine b_lload_n hO dX12_isOwn_84 1 rfl rfl ?_
                      refine b_ldc2 hO w1525 dX12_isOwn_85 ?_
                      refine b_lcmp hO dX12_isOwn_88 ?_
                      refine b_if_eq hO dX12_isOwn_89 (tgt := 124) (by decide) ?_ ?_
                      · refine b_iconst hO dX12_isOwn_124 ic_i_1 ?_
                        exact b_zretc hO (Or.inr rfl) dX12_isOwn_125
                      · refine b_lload_n hO dX12_isOwn_92 1 rfl rfl ?_
                        refine b_ldc2 hO w1526 dX12_isOwn_93 ?_
                        refine b_lcmp hO dX12_isOwn_96 ?_
                        refine b_if_eq hO dX12_isOwn_97 (tgt := 124) (by decide) ?_ ?_
                        · refine b_iconst hO dX12_isOwn_124 ic_i_1 ?_
                          exact b_zretc hO (Or.inr rfl) dX12_isOwn_125
                        · refine b_lload_n hO dX12_isOwn_100 1 rfl rfl ?_
                          refine b_ldc2 hO w1527 dX12_isOwn_101 ?_
                          refine b_lcmp hO dX12_isOwn_104 ?_
                          refine b_if_eq hO dX12_isOwn_105 (tgt := 124) (by decide) ?_ ?_
                          · refine b_iconst hO dX12_isOwn_124 ic_i_1 ?_
                            exact b_zretc hO (Or.inr rfl) dX12_isOwn_125
                          · refine b_lload_n hO dX12_isOwn_108 1 rfl rfl ?_
                            refine b_ldc2 hO w1528 dX12_isOwn_109 ?_
                            refine b_lcmp hO dX12_isOwn_112 ?_
                            refine b_if_eq hO dX12_isOwn_113 (tgt := 124) (by decide) ?_ ?_
                            · refine b_iconst hO dX12_isOwn_124 ic_i_1 ?_
                              exact b_zretc hO (Or.inr rfl) dX12_isOwn_125
                            · refine b_lload_n hO dX12_isOwn_116 1 rfl rfl ?_
                              refine b_ldc2 hO w1529 dX12_isOwn_117 ?_
                              refine b_lcmp hO dX12_isOwn_120 ?_
                              refine b_if_ne hO dX12_isOwn_121 (tgt := 126) (by decide) ?_ ?_
                              · refine b_lload_n hO dX12_isOwn_126 1 rfl rfl ?_
                                refine b_ldc2 hO w1530 dX12_isOwn_127 ?_
                                refine b_lcmp hO dX12_isOwn_130 ?_
                                refine b_if_eq hO dX12_isOwn_131 (tgt := 166) (by decide) ?_ ?_
                                · refine b_iconst hO dX12_isOwn_166 ic_i_1 ?_
                                  exact b_zretc hO (Or.inr rfl) dX12_isOwn_167
                                · refine b_lload_n hO dX12_isOwn_134 1 rfl rfl ?_
                                  refine b_ldc2 hO w1531 dX12_isOwn_135 ?_
                                  refine b_lcmp hO dX12_isOwn_138 ?_
                                  refine b_if_eq hO dX12_isOwn_139 (tgt := 166) (by decide) ?_ ?_
                                  · refine b_iconst hO dX12_isOwn_166 ic_i_1 ?_
                                    exact b_zretc hO (Or.inr rfl) dX12_isOwn_167
                                  · refine b_lload_n hO dX12_isOwn_142 1 rfl rfl ?_
                                    refine b_ldc2 hO w1532 dX12_isOwn_143 ?_
                                    refine b_lcmp hO dX12_isOwn_146 ?_
                                    refine b_if_eq hO dX12_isOwn_147 (tgt := 166) (by decide) ?_ ?_
                                    · refine b_iconst hO dX12_isOwn_166 ic_i_1 ?_
                                      exact b_zretc hO (Or.inr rfl) dX12_isOwn_167
                                    · refine b_lload_n hO dX12_isOwn_150 1 rfl rfl ?_
                                      refine b_ldc2 hO w1533 dX12_isOwn_151 ?_
                                      refine b_lcmp hO dX12_isOwn_154 ?_
                                      refine b_if_eq hO dX12_isOwn_155 (tgt := 166) (by decide) ?_ ?_
                                      · refine b_iconst hO dX12_isOwn_166 ic_i_1 ?_
                                        exact b_zretc hO (Or.inr rfl) dX12_isOwn_167
                                      · refine b_lload_n hO dX12_isOwn_158 1 rfl rfl ?_
                                        refine b_ldc2 hO w1534 dX12_isOwn_159 ?_
                                        refine b_lcmp hO dX12_isOwn_162 ?_
                                        refine b_if_ne hO dX12_isOwn_163 (tgt := 168) (by decide) ?_ ?_
                                        · refine b_lload_n hO dX12_isOwn_168 1 rfl rfl ?_
                                          refine b_ldc2 hO w1535 dX12_isOwn_169 ?_
                                          refine b_lcmp hO dX12_isOwn_172 ?_
                                          refine b_if_eq hO dX12_isOwn_173 (tgt := 208) (by decide) ?_ ?_
                                          · refine b_iconst hO dX12_isOwn_208 ic_i_1 ?_
                                            exact b_zretc hO (Or.inr rfl) dX12_isOwn_209
                                          · refine b_lload_n hO dX12_isOwn_176 1 rfl rfl ?_
                                            refine b_ldc2 hO w1536 dX12_isOwn_177 ?_
                                            refine b_lcmp hO dX12_isOwn_180 ?_
                                            refine b_if_eq hO dX12_isOwn_181 (tgt := 208) (by decide) ?_ ?_
                                            · refine b_iconst hO dX12_isOwn_208 ic_i_1 ?_
                                              exact b_zretc hO (Or.inr rfl) dX12_isOwn_209
                                            · refine b_lload_n hO dX12_isOwn_184 1 rfl rfl ?_
                                              refine b_ldc2 hO w1537 dX12_isOwn_185 ?_
                                              refine b_lcmp hO dX12_isOwn_188 ?_
                                              refine b_if_eq hO dX12_isOwn_189 (tgt := 208) (by decide) ?_ ?_
                                              · refine b_iconst hO dX12_isOwn_208 ic_i_1 ?_
                                                exact b_zretc hO (Or.inr rfl) dX12_isOwn_209
                                              · refine b_lload_n hO dX12_isOwn_192 1 rfl rfl ?_
                                                refine b_ldc2 hO w1538 dX12_isOwn_193 ?_
                                                refine b_lcmp hO dX12_isOwn_196 ?_
                                                refine b_if_eq hO dX12_isOwn_197 (tgt := 208) (by decide) ?_ ?_
                                                · refine b_iconst hO dX12_isOwn_208 ic_i_1 ?_
                                                  exact b_zretc hO (Or.inr rfl) dX12_isOwn_209
                                                · refine b_lload_n hO dX12_isOwn_200 1 rfl rfl ?_
                                                  refine b_ldc2 hO w1539 dX12_isOwn_201 ?_
                                                  refine b_lcmp hO dX12_isOwn_204 ?_
                                                  refine b_if_ne hO dX12_isOwn_205 (tgt := 210) (by decide) ?_ ?_
                                                  · refine b_iconst hO dX12_isOwn_210 ic_i_0 ?_
                                                    exact b_zretc hO (Or.inl rfl) dX12_isOwn_211
                                                  · refine b_iconst hO dX12_isOwn_208 ic_i_1 ?_
                                                    exact b_zretc hO (Or.inr rfl) dX12_isOwn_209
                                        · refine b_iconst hO dX12_isOwn_166 ic_i_1 ?_
                                          exact b_zretc hO (Or.inr rfl) dX12_isOwn_167
                              · refine b_iconst hO dX12_isOwn_124 ic_i_1 ?_
                                exact b_zretc hO (Or.inr rfl) dX12_isOwn_125
                    · refine b_iconst hO dX12_isOwn_82 ic_i_1 ?_
                      exact b_zretc hO (Or.inr rfl) dX12_isOwn_83
          · refine b_iconst hO dX12_isOwn_40 ic_i_1 ?_
            exact b_zretc hO (Or.inr rfl) dX12_isOwn_41
theorem ctX12_isOwn (n0 : Nat) (hI : Inj LY ad) (y1 : Int64) (M : Mem) : CT l LY D cy ad yX12_isOwn cX12_isOwn 3 (some .boolean) 1 (QI LY D cy ad) [.ref (ad 0), .long y1] M (fX12_isOwn n0 y1 M) :=
  CT.mk LYok hI (by decide) (Nat.le_of_ble_eq_true rfl) (fun hO => tfX12_isOwn n0 hO y1 M)
/-! X12_manyOf -/
def fX12_manyOf (n0 : Nat) (x1 : Int32) (x2 : Int32) (M : Mem) : Option (Int32 × Mem) :=
  if x2 = 0 then
    if oob x1 2 then none else
    some ((gA M 2 (Int32.toNatClampNeg x1)), M)
  else
    if x2 = (1 : Int32) then
      if oob x1 2 then none else
      some ((gA M 5 (Int32.toNatClampNeg x1)), M)
    else
      if oob x1 2 then none else
      some ((gA M 10 (Int32.toNatClampNeg x1)), M)
theorem tfX12_manyOf (n0 : Nat) (hO : OKc p (rmL 1) s m args meth c LY D cy ad cX12_manyOf RX12 3 1 (some .int)) (x1 : Int32) (x2 : Int32) (M : Mem) : BL p l e (rmL 1) s m args below meth c LY D cy ad 3 (QI LY D cy ad) 0 [(0, .ref (ad 0)), (1, .int x1), (2, .int x2)] [] M (fX12_manyOf n0 x1 x2 M) := by
  unfold fX12_manyOf
  refine b_iload_n hO dX12_manyOf_0 2 rfl rfl ?_
  refine b_if_ne hO dX12_manyOf_1 (tgt := 13) (by decide) ?_ ?_
  · refine b_iload_n hO dX12_manyOf_13 2 rfl rfl ?_
    refine b_iconst hO dX12_manyOf_14 ic_i_1 ?_
    refine b_icmp_ne hO dX12_manyOf_15 (tgt := 27) (by decide) ?_ ?_
    · refine b_aload_n hO dX12_manyOf_27 0 rfl rfl ?_
      refine b_get hO flX12_78 kLY_0 (v := .ref (ad 10)) rfl dX12_manyOf_28 ?_
      refine b_iload_n hO dX12_manyOf_31 1 rfl rfl ?_
      refine b_iald hO kLY_10 (n := 2) rfl dX12_manyOf_32 ?_
      exact b_iret hO dX12_manyOf_33
    · refine b_aload_n hO dX12_manyOf_18 0 rfl rfl ?_
      refine b_get hO flX12_63 kLY_0 (v := .ref (ad 5)) rfl dX12_manyOf_19 ?_
      refine b_iload_n hO dX12_manyOf_22 1 rfl rfl ?_
      refine b_iald hO kLY_5 (n := 2) rfl dX12_manyOf_23 ?_
      refine b_goto hO dX12_manyOf_24 (tgt := 33) (by decide) ?_
      exact b_iret hO dX12_manyOf_33
  · refine b_aload_n hO dX12_manyOf_4 0 rfl rfl ?_
    refine b_get hO flX12_54 kLY_0 (v := .ref (ad 2)) rfl dX12_manyOf_5 ?_
    refine b_iload_n hO dX12_manyOf_8 1 rfl rfl ?_
    refine b_iald hO kLY_2 (n := 2) rfl dX12_manyOf_9 ?_
    refine b_goto hO dX12_manyOf_10 (tgt := 33) (by decide) ?_
    exact b_iret hO dX12_manyOf_33
theorem ctX12_manyOf (n0 : Nat) (hI : Inj LY ad) (x1 : Int32) (x2 : Int32) (M : Mem) : CT l LY D cy ad yX12_manyOf cX12_manyOf 3 (some .int) 1 (QI LY D cy ad) [.ref (ad 0), .int x1, .int x2] M (fX12_manyOf n0 x1 x2 M) :=
  CT.mk LYok hI (by decide) (Nat.le_of_ble_eq_true rfl) (fun hO => tfX12_manyOf n0 hO x1 x2 M)
/-! X12_nameOf -/
def fX12_nameOf (n0 : Nat) (x1 : Int32) (x2 : Int32) (x3 : Int32) (M : Mem) : Option (Int64 × Mem) :=
  if x2 = 0 then
    if oob (((6 : Int32) * x1) + x3) 12 then none else
    some ((gB M 18 (Int32.toNatClampNeg (((6 : Int32) * x1) + x3))), M)
  else
    if x2 = (1 : Int32) then
      if oob (((5 : Int32) * x1) + x3) 10 then none else
      some ((gB M 19 (Int32.toNatClampNeg (((5 : Int32) * x1) + x3))), M)
    else
      if oob (((6 : Int32) * x1) + x3) 12 then none else
      some ((gB M 20 (Int32.toNatClampNeg (((6 : Int32) * x1) + x3))), M)
theorem tfX12_nameOf (n0 : Nat) (hO : OKc p (rmL 1) s m args meth c LY D cy ad cX12_nameOf RX12 4 1 (some .long)) (x1 : Int32) (x2 : Int32) (x3 : Int32) (M : Mem) : BL p l e (rmL 1) s m args below meth c LY D cy ad 4 (QL LY D cy ad) 0 [(0, .ref (ad 0)), (1, .int x1), (2, .int x2), (3, .int x3)] [] M (fX12_nameOf n0 x1 x2 x3 M) := by
  unfold fX12_nameOf
  refine b_iload_n hO dX12_nameOf_0 2 rfl rfl ?_
  refine b_if_ne hO dX12_nameOf_1 (tgt := 18) (by decide) ?_ ?_
  · refine b_iload_n hO dX12_nameOf_18 2 rfl rfl ?_
    refine b_iconst hO dX12_nameOf_19 ic_i_1 ?_
    refine b_icmp_ne hO dX12_nameOf_20 (tgt := 36) (by decide) ?_ ?_
    · refine b_aload_n hO dX12_nameOf_36 0 rfl rfl ?_
      refine b_get hO flX12_109 kLY_0 (v := .ref (ad 20)) rfl dX12_nameOf_37 ?_
      refine b_bipush hO dX12_nameOf_40 ic_b_6 ?_
      refine b_iload_n hO dX12_nameOf_42 1 rfl rfl ?_
      refine b_imul hO dX12_nameOf_43 ?_
      refine b_iload_n hO dX12_nameOf_44 3 rfl rfl ?_
      refine b_iadd hO dX12_nameOf_45 ?_
      refine b_lald hO kLY_20 (n := 12) rfl dX12_nameOf_46 ?_
      exact b_lret hO dX12_nameOf_47
    · refine b_aload_n hO dX12_nameOf_23 0 rfl rfl ?_
      refine b_get hO flX12_106 kLY_0 (v := .ref (ad 19)) rfl dX12_nameOf_24 ?_
      refine b_iconst hO dX12_nameOf_27 ic_i_5 ?_
      refine b_iload_n hO dX12_nameOf_28 1 rfl rfl ?_
      refine b_imul hO dX12_nameOf_29 ?_
      refine b_iload_n hO dX12_nameOf_30 3 rfl rfl ?_
      refine b_iadd hO dX12_nameOf_31 ?_
      refine b_lald hO kLY_19 (n := 10) rfl dX12_nameOf_32 ?_
      refine b_goto hO dX12_nameOf_33 (tgt := 47) (by decide) ?_
      exact b_lret hO dX12_nameOf_47
  · refine b_aload_n hO dX12_nameOf_4 0 rfl rfl ?_
    refine b_get hO flX12_102 kLY_0 (v := .ref (ad 18)) rfl dX12_nameOf_5 ?_
    refine b_bipush hO dX12_nameOf_8 ic_b_6 ?_
    refine b_iload_n hO dX12_nameOf_10 1 rfl rfl ?_
    refine b_imul hO dX12_nameOf_11 ?_
    refine b_iload_n hO dX12_nameOf_12 3 rfl rfl ?_
    refine b_iadd hO dX12_nameOf_13 ?_
    refine b_lald hO kLY_18 (n := 12) rfl dX12_nameOf_14 ?_
    refine b_goto hO dX12_nameOf_15 (tgt := 47) (by decide) ?_
    exact b_lret hO dX12_nameOf_47
theorem ctX12_nameOf (n0 : Nat) (hI : Inj LY ad) (x1 : Int32) (x2 : Int32) (x3 : Int32) (M : Mem) : CT l LY D cy ad yX12_nameOf cX12_nameOf 4 (some .long) 1 (QL LY D cy ad) [.ref (ad 0), .int x1, .int x2, .int x3] M (fX12_nameOf n0 x1 x2 x3 M) :=
  CT.mk LYok hI (by decide) (Nat.le_of_ble_eq_true rfl) (fun hO => tfX12_nameOf n0 hO x1 x2 x3 M)
/-! X12_named -/
def bX12_named_3 (n0 : Nat) (k3 : Int32 → Int64 → Int32 → Mem → Option (Int32 × Mem)) (x1 : Int32) (y2 : Int64) (x4 : Int32) (M : Mem) : Option (Int32 × Mem) :=
  (fX12_manyOf n0 (gI M 34) x1 M).bind fun z11 =>
  if z11.1 ≤ x4 then
    some ((-1 : Int32), z11.2)
  else
    (fX12_nameOf n0 (gI z11.2 34) x1 x4 z11.2).bind fun z25 =>
    if (lg_cmp z25.1 y2) = 0 then
      some (x4, z25.2)
    else
      k3 x1 y2 (x4 + (1 : Int32)) z25.2
def fX12_named_3 (n0 : Nat) : Int32 → Int64 → Int32 → Mem → Option (Int32 × Mem) := loopN (bX12_named_3 n0) (fun _ _ _ _ => none) n0
def fX12_named (n0 : Nat) (x1 : Int32) (y2 : Int64) (M : Mem) : Option (Int32 × Mem) :=
  fX12_named_3 n0 x1 y2 (0 : Int32) M
theorem tbX12_named_3 (n0 : Nat) (hO : OKc p (rmL 2) s m args meth c LY D cy ad cX12_named RX12 5 2 (some .int)) (k3 : Int32 → Int64 → Int32 → Mem → Option (Int32 × Mem)) (hk3 : ∀ (x1 : Int32) (y2 : Int64) (x4 : Int32) (M : Mem), BL p l e (rmL 2) s m args below meth c LY D cy ad 5 (QI LY D cy ad) 3 [(0, .ref (ad 0)), (1, .int x1), (2, .long y2), (4, .int x4)] [] M (k3 x1 y2 x4 M)) (x1 : Int32) (y2 : Int64) (x4 : Int32) (M : Mem) : BL p l e (rmL 2) s m args below meth c LY D cy ad 5 (QI LY D cy ad) 3 [(0, .ref (ad 0)), (1, .int x1), (2, .long y2), (4, .int x4)] [] M (bX12_named_3 n0 k3 x1 y2 x4 M) := by
  unfold bX12_named_3
  refine b_iload hO dX12_named_3 3 rfl ?_
  refine b_aload_n hO dX12_named_5 0 rfl rfl ?_
  refine b_aload_n hO dX12_named_6 0 rfl rfl ?_
  refine b_get hO flX12_115 kLY_0 (v := .int (gI _ 34)) rfl dX12_named_7 ?_
  refine b_iload_n hO dX12_named_10 1 rfl rfl ?_
  refine b_callVI hO mdX12_manyOf mvX12_manyOf w1544 (ci := 12) rfl rfl (by decide) kLY_0 (As := [.int _, .int _]) (st := [.int _]) (ctX12_manyOf n0 hO.2.2.2.2.2.2.1 _ _ _) (Nat.le_of_ble_eq_true rfl) rfl rfl (Nat.le_of_ble_eq_true rfl) dX12_named_11 (fun z11 => ?_)
  refine b_icmp_ge hO dX12_named_14 (tgt := 42) (by decide) ?_ ?_
  · refine b_iconst hO dX12_named_42 ic_i_m1 ?_
    exact b_iret hO dX12_named_43
  · refine b_aload_n hO dX12_named_17 0 rfl rfl ?_
    refine b_aload_n hO dX12_named_18 0 rfl rfl ?_
    refine b_get hO flX12_115 kLY_0 (v := .int (gI _ 34)) rfl dX12_named_19 ?_
    refine b_iload_n hO dX12_named_22 1 rfl rfl ?_
    refine b_iload hO dX12_named_23 3 rfl ?_
    refine b_callVL hO mdX12_nameOf mvX12_nameOf w1548 (ci := 12) rfl rfl (by decide) kLY_0 (As := [.int _, .int _, .int _]) (st := []) (ctX12_nameOf n0 hO.2.2.2.2.2.2.1 _ _ _ _) (Nat.le_of_ble_eq_true rfl) rfl rfl (Nat.le_of_ble_eq_true rfl) dX12_named_25 (fun z25 => ?_)
    refine b_lload_n hO dX12_named_28 2 rfl rfl ?_
    refine b_lcmp hO dX12_named_29 ?_
    refine b_if_ne hO dX12_named_30 (tgt := 36) (by decide) ?_ ?_
    · refine b_iinc hO dX12_named_36 3 rfl ic_i_1 (by decide) (lv' := [(4, .int _), (0, .ref _), (1, .int _), (2, .long _)]) rfl ?_
      refine b_goto hO dX12_named_39 (tgt := 3) (by decide) ?_
      refine b_sub [1, 2, 3, 0] rfl ?_
      exact hk3 _ _ _ _
    · refine b_iload hO dX12_named_33 3 rfl ?_
      exact b_iret hO dX12_named_35
theorem lX12_named_3 (n0 : Nat) (hO : OKc p (rmL 2) s m args meth c LY D cy ad cX12_named RX12 5 2 (some .int)) : ∀ (w : Nat) (x1 : Int32) (y2 : Int64) (x4 : Int32) (M : Mem), BL p l e (rmL 2) s m args below meth c LY D cy ad 5 (QI LY D cy ad) 3 [(0, .ref (ad 0)), (1, .int x1), (2, .long y2), (4, .int x4)] [] M (loopN (bX12_named_3 n0) (fun _ _ _ _ => none) w x1 y2 x4 M) := by
  intro w
  induction w with
  | zero =>
    intros
    exact b_none
  | succ w ih =>
    intro x1 y2 x4 M
    exact tbX12_named_3 n0 hO _ ih x1 y2 x4 M
theorem tfX12_named_3 (n0 : Nat) (hO : OKc p (rmL 2) s m args meth c LY D cy ad cX12_named RX12 5 2 (some .int)) (x1 : Int32) (y2 : Int64) (x4 : Int32) (M : Mem) : BL p l e (rmL 2) s m args below meth c LY D cy ad 5 (QI LY D cy ad) 3 [(0, .ref (ad 0)), (1, .int x1), (2, .long y2), (4, .int x4)] [] M (fX12_named_3 n0 x1 y2 x4 M) := lX12_named_3 n0 hO n0 x1 y2 x4 M
theorem tfX12_named (n0 : Nat) (hO : OKc p (rmL 2) s m args meth c LY D cy ad cX12_named RX12 5 2 (some .int)) (x1 : Int32) (y2 : Int64) (M : Mem) : BL p l e (rmL 2) s m args below meth c LY D cy ad 5 (QI LY D cy ad) 0 [(0, .ref (ad 0)), (1, .int x1), (2, .long y2)] [] M (fX12_named n0 x1 y2 M) := by
  unfold fX12_named
  refine b_iconst hO dX12_named_0 ic_i_0 ?_
  refine b_istore hO dX12_named_1 (by decide) (lv' := [(4, .int _), (0, .ref _), (1, .int _), (2, .long _)]) rfl ?_
  refine b_sub [1, 2, 3, 0] rfl ?_
  exact tfX12_named_3 n0 hO _ _ _ _
theorem ctX12_named (n0 : Nat) (hI : Inj LY ad) (x1 : Int32) (y2 : Int64) (M : Mem) : CT l LY D cy ad yX12_named cX12_named 5 (some .int) 2 (QI LY D cy ad) [.ref (ad 0), .int x1, .long y2] M (fX12_named n0 x1 y2 M) :=
  CT.mk LYok hI (by decide) (Nat.le_of_ble_eq_true rfl) (fun hO => tfX12_named n0 hO x1 y2 M)
/-! X12_number -/
def fX12_number_58 (n0 : Nat) (M : Mem) : Option (Int32 × Mem) :=
  bnd (gI M 6) fun x3_62 =>
  if (gI M 8) = 0 then
    (fX12_ahead n0 M).bind fun z71 =>
    some (x3_62, z71)
  else
    some (x3_62, M)
def fX12_number_30 (n0 : Nat) (x1 : Int32) (x2 : Int32) (M : Mem) : Option (Int32 × Mem) :=
  if (gI M 8) = 0 then
    (fX12_is n0 (gI M 6) x1 x2 M).bind fun z43 =>
    if z43.1 = 0 then
      (fX12_blame n0 (4 : Int32) (gI z43.2 4) z43.2).bind fun z55 =>
      fX12_number_58 n0 z55
    else
      fX12_number_58 n0 z43.2
  else
    fX12_number_58 n0 M
def fX12_number (n0 : Nat) (x1 : Int32) (x2 : Int32) (M : Mem) : Option (Int32 × Mem) :=
  (fX12_lex n0 M).bind fun z1 =>
  if (gI z1 8) ≤ 0 then
    if (gI z1 3) = (2 : Int32) then
      fX12_number_30 n0 x1 x2 z1
    else
      (fX12_blame n0 (1 : Int32) (gI z1 4) z1).bind fun z27 =>
      fX12_number_30 n0 x1 x2 z27
  else
    some ((0 : Int32), z1)
theorem tfX12_number_58 (n0 : Nat) (hO : OKc p (rmL 3) s m args meth c LY D cy ad cX12_number RX12 4 3 (some .int)) (M : Mem) : BL p l e (rmL 3) s m args below meth c LY D cy ad 4 (QI LY D cy ad) 58 [(0, .ref (ad 0))] [] M (fX12_number_58 n0 M) := by
  unfold fX12_number_58
  refine b_aload_n hO dX12_number_58 0 rfl rfl ?_
  refine b_get hO flX12_29 kLY_0 (v := .int (gI _ 6)) rfl dX12_number_59 ?_
  refine b_topI (fun x3_62 => ?_)
  refine b_istore_n hO dX12_number_62 rfl (by decide) (lv' := [(3, .int _), (0, .ref _)]) rfl ?_
  refine b_aload_n hO dX12_number_63 1 rfl rfl ?_
  refine b_get hO flX12_36 kLY_0 (v := .int (gI _ 8)) rfl dX12_number_64 ?_
  refine b_if_ne hO dX12_number_67 (tgt := 74) (by decide) ?_ ?_
  · refine b_iload_n hO dX12_number_74 0 rfl rfl ?_
    exact b_iret hO dX12_number_75
  · refine b_aload_n hO dX12_number_70 1 rfl rfl ?_
    refine b_callVV hO mdX12_ahead mvX12_ahead w1473 (ci := 12) rfl rfl (by decide) kLY_0 (As := []) (st := []) (ctX12_ahead n0 hO.2.2.2.2.2.2.1 _) (Nat.le_of_ble_eq_true rfl) rfl rfl (Nat.le_of_ble_eq_true rfl) dX12_number_71 (fun z71 => ?_)
    refine b_iload_n hO dX12_number_74 0 rfl rfl ?_
    exact b_iret hO dX12_number_75
theorem tfX12_number_30 (n0 : Nat) (hO : OKc p (rmL 3) s m args meth c LY D cy ad cX12_number RX12 4 3 (some .int)) (x1 : Int32) (x2 : Int32) (M : Mem) : BL p l e (rmL 3) s m args below meth c LY D cy ad 4 (QI LY D cy ad) 30 [(0, .ref (ad 0)), (1, .int x1), (2, .int x2)] [] M (fX12_number_30 n0 x1 x2 M) := by
  unfold fX12_number_30
  refine b_aload_n hO dX12_number_30 0 rfl rfl ?_
  refine b_get hO flX12_36 kLY_0 (v := .int (gI _ 8)) rfl dX12_number_31 ?_
  refine b_if_ne hO dX12_number_34 (tgt := 58) (by decide) ?_ ?_
  · refine b_sub [0] rfl ?_
    exact tfX12_number_58 n0 hO _
  · refine b_aload_n hO dX12_number_37 0 rfl rfl ?_
    refine b_get hO flX12_29 kLY_0 (v := .int (gI _ 6)) rfl dX12_number_38 ?_
    refine b_iload_n hO dX12_number_41 1 rfl rfl ?_
    refine b_iload_n hO dX12_number_42 2 rfl rfl ?_
    refine b_callSI hO mdX12_is w1561 w1560 (As := [.int _, .int _, .int _]) (st := []) (ctX12_is n0 hO.2.2.2.2.2.2.1 _ _ _ _) (Nat.le_of_ble_eq_true rfl) rfl rfl (Nat.le_of_ble_eq_true rfl) dX12_number_43 (fun z43 => ?_)
    refine b_if_ne hO dX12_number_46 (tgt := 58) (by decide) ?_ ?_
    · refine b_sub [0] rfl ?_
      exact tfX12_number_58 n0 hO _
    · refine b_aload_n hO dX12_number_49 0 rfl rfl ?_
      refine b_iconst hO dX12_number_50 ic_i_4 ?_
      refine b_aload_n hO dX12_number_51 0 rfl rfl ?_
      refine b_get hO flX12_23 kLY_0 (v := .int (gI _ 4)) rfl dX12_number_52 ?_
      refine b_callVV hO mdX12_blame mvX12_blame w1491 (ci := 12) rfl rfl (by decide) kLY_0 (As := [.int _, .int _]) (st := []) (ctX12_blame n0 hO.2.2.2.2.2.2.1 _ _ _) (Nat.le_of_ble_eq_true rfl) rfl rfl (Nat.le_of_ble_eq_true rfl) dX12_number_55 (fun z55 => ?_)
      refine b_sub [0] rfl ?_
      exact tfX12_number_58 n0 hO _
theorem tfX12_number (n0 : Nat) (hO : OKc p (rmL 3) s m args meth c LY D cy ad cX12_number RX12 4 3 (some .int)) (x1 : Int32) (x2 : Int32) (M : Mem) : BL p l e (rmL 3) s m args below meth c LY D cy ad 4 (QI LY D cy ad) 0 [(0, .ref (ad 0)), (1, .int x1), (2, .int x2)] [] M (fX12_number n0 x1 x2 M) := by
  unfold fX12_number
  refine b_aload_n hO dX12_number_0 0 rfl rfl ?_
  refine b_callVV hO mdX12_lex mvX12_lex w1487 (ci := 12) rfl rfl (by decide) kLY_0 (As := []) (st := []) (ctX12_lex n0 hO.2.2.2.2.2.2.1 _) (Nat.le_of_ble_eq_true rfl) rfl rfl (Nat.le_of_ble_eq_true rfl) dX12_number_1 (fun z1 => ?_)
  refine b_aload_n hO dX12_number_4 0 rfl rfl ?_
  refine b_get hO flX12_36 kLY_0 (v := .int (gI _ 8)) rfl dX12_number_5 ?_
  refine b_if_le hO dX12_number_8 (tgt := 13) (by decide) ?_ ?_
  · refine b_aload_n hO dX12_number_13 0 rfl rfl ?_
    refine b_get hO flX12_20 kLY_0 (v := .int (gI _ 3)) rfl dX12_number_14 ?_
    refine b_iconst hO dX12_number_17 ic_i_2 ?_
    refine b_icmp_eq hO dX12_number_18 (tgt := 30) (by decide) ?_ ?_
    · exact tfX12_number_30 n0 hO _ _ _
    · refine b_aload_n hO dX12_number_21 0 rfl rfl ?_
      refine b_iconst hO dX12_number_22 ic_i_1 ?_
      refine b_aload_n hO dX12_number_23 0 rfl rfl ?_
      refine b_get hO flX12_23 kLY_0 (v := .int (gI _ 4)) rfl dX12_number_24 ?_
      refine b_callVV hO mdX12_blame mvX12_blame w1491 (ci := 12) rfl rfl (by decide) kLY_0 (As := [.int _, .int _]) (st := []) (ctX12_blame n0 hO.2.2.2.2.2.2.1 _ _ _) (Nat.le_of_ble_eq_true rfl) rfl rfl (Nat.le_of_ble_eq_true rfl) dX12_number_27 (fun z27 => ?_)
      exact tfX12_number_30 n0 hO _ _ _
  · refine b_iconst hO dX12_number_11 ic_i_0 ?_
    exact b_iret hO dX12_number_12
theorem ctX12_number (n0 : Nat) (hI : Inj LY ad) (x1 : Int32) (x2 : Int32) (M : Mem) : CT l LY D cy ad yX12_number cX12_number 4 (some .int) 3 (QI LY D cy ad) [.ref (ad 0), .int x1, .int x2] M (fX12_number n0 x1 x2 M) :=
  CT.mk LYok hI (by decide) (Nat.le_of_ble_eq_true rfl) (fun hO => tfX12_number n0 hO x1 x2 M)
/-! X12_add -/
def fX12_add (n0 : Nat) (x1 : Int32) (x2 : Int32) (M : Mem) : Option (Mem) :=
  if oob (((1600 : Int32) * (gI M 34)) + (gI M 33)) 3200 then none else
  bnd (sA M 16 (Int32.toNatClampNeg (((1600 : Int32) * (gI M 34)) + (gI M 33))) x1) fun M18 =>
  if oob (((1600 : Int32) * (gI M18 34)) + (gI M18 33)) 3200 then none else
  bnd (sA M18 17 (Int32.toNatClampNeg (((1600 : Int32) * (gI M18 34)) + (gI M18 33))) x2) fun M37 =>
  some (sI M37 33 ((gI M37 33) + (1 : Int32)))
theorem tfX12_add (n0 : Nat) (hO : OKc p (rmL 1) s m args meth c LY D cy ad cX12_add RX12 3 1 none) (x1 : Int32) (x2 : Int32) (M : Mem) : BL p l e (rmL 1) s m args below meth c LY D cy ad 3 (QV LY D cy ad) 0 [(0, .ref (ad 0)), (1, .int x1), (2, .int x2)] [] M (fX12_add n0 x1 x2 M) := by
  unfold fX12_add
  refine b_aload_n hO dX12_add_0 0 rfl rfl ?_
  refine b_get hO flX12_96 kLY_0 (v := .ref (ad 16)) rfl dX12_add_1 ?_
  refine b_sipush hO dX12_add_4 ic_s_1600 ?_
  refine b_aload_n hO dX12_add_7 0 rfl rfl ?_
  refine b_get hO flX12_115 kLY_0 (v := .int (gI _ 34)) rfl dX12_add_8 ?_
  refine b_imul hO dX12_add_11 ?_
  refine b_aload_n hO dX12_add_12 0 rfl rfl ?_
  refine b_get hO flX12_112 kLY_0 (v := .int (gI _ 33)) rfl dX12_add_13 ?_
  refine b_iadd hO dX12_add_16 ?_
  refine b_iload_n hO dX12_add_17 1 rfl rfl ?_
  refine b_iast hO kLY_16 (n := 3200) rfl dX12_add_18 ?_
  refine b_bnd (fun M18 => ?_)
  refine b_aload_n hO dX12_add_19 0 rfl rfl ?_
  refine b_get hO flX12_99 kLY_0 (v := .ref (ad 17)) rfl dX12_add_20 ?_
  refine b_sipush hO dX12_add_23 ic_s_1600 ?_
  refine b_aload_n hO dX12_add_26 0 rfl rfl ?_
  refine b_get hO flX12_115 kLY_0 (v := .int (gI _ 34)) rfl dX12_add_27 ?_
  refine b_imul hO dX12_add_30 ?_
  refine b_aload_n hO dX12_add_31 0 rfl rfl ?_
  refine b_get hO flX12_112 kLY_0 (v := .int (gI _ 33)) rfl dX12_add_32 ?_
  refine b_iadd hO dX12_add_35 ?_
  refine b_iload_n hO dX12_add_36 2 rfl rfl ?_
  refine b_iast hO kLY_17 (n := 3200) rfl dX12_add_37 ?_
  refine b_bnd (fun M37 => ?_)
  refine b_aload_n hO dX12_add_38 0 rfl rfl ?_
  refine b_dup hO dX12_add_39 rfl ?_
  refine b_get hO flX12_112 kLY_0 (v := .int (gI _ 33)) rfl dX12_add_40 ?_
  refine b_iconst hO dX12_add_43 ic_i_1 ?_
  refine b_iadd hO dX12_add_44 ?_
  refine b_putI hO flX12_112 kLY_0 rfl rfl rfl (id := 33) rfl dX12_add_45 ?_
  exact b_vret hO dX12_add_48
theorem ctX12_add (n0 : Nat) (hI : Inj LY ad) (x1 : Int32) (x2 : Int32) (M : Mem) : CT l LY D cy ad yX12_add cX12_add 3 none 1 (QV LY D cy ad) [.ref (ad 0), .int x1, .int x2] M (fX12_add n0 x1 x2 M) :=
  CT.mk LYok hI (by decide) (Nat.le_of_ble_eq_true rfl) (fun hO => tfX12_add n0 hO x1 x2 M)
/-! X12_rank -/
def fX12_rank (n0 : Nat) (x0 : Int32) (M : Mem) : Option (Int32 × Mem) :=
  if x0 = (42 : Int32) then
    some ((1 : Int32), M)
  else
    if x0 = (41 : Int32) then
      some ((2 : Int32), M)
    else
      if x0 = (43 : Int32) then
        some ((3 : Int32), M)
      else
        if x0 = (38 : Int32) then
          some ((4 : Int32), M)
        else
          if x0 = (39 : Int32) then
            some ((4 : Int32), M)
          else
            if x0 = (40 : Int32) then
              some ((4 : Int32), M)
            else
              if x0 = (31 : Int32) then
                some ((5 : Int32), M)
              else
                if x0 = (32 : Int32) then
                  some ((5 : Int32), M)
                else
                  some ((6 : Int32), M)
theorem tfX12_rank (n0 : Nat) (hO : OKc p (rmL 1) s m args meth c LY D cy ad cX12_rank RX12 1 1 (some .int)) (x0 : Int32) (M : Mem) : BL p l e (rmL 1) s m args below meth c LY D cy ad 1 (QI LY D cy ad) 0 [(0, .int x0)] [] M (fX12_rank n0 x0 M) := by
  unfold fX12_rank
  refine b_iload_n hO dX12_rank_0 0 rfl rfl ?_
  refine b_bipush hO dX12_rank_1 ic_b_42 ?_
  refine b_icmp_ne hO dX12_rank_3 (tgt := 10) (by decide) ?_ ?_
  · refine b_iload_n hO dX12_rank_10 0 rfl rfl ?_
    refine b_bipush hO dX12_rank_11 ic_b_41 ?_
    refine b_icmp_ne hO dX12_rank_13 (tgt := 20) (by decide) ?_ ?_
    · refine b_iload_n hO dX12_rank_20 0 rfl rfl ?_
      refine b_bipush hO dX12_rank_21 ic_b_43 ?_
      refine b_icmp_ne hO dX12_rank_23 (tgt := 30) (by decide) ?_ ?_
      · refine b_iload_n hO dX12_rank_30 0 rfl rfl ?_
        refine b_bipush hO dX12_rank_31 ic_b_38 ?_
        refine b_icmp_eq hO dX12_rank_33 (tgt := 48) (by decide) ?_ ?_
        · refine b_iconst hO dX12_rank_48 ic_i_4 ?_
          refine b_goto hO dX12_rank_49 (tgt := 70) (by decide) ?_
          exact b_iret hO dX12_rank_70
        · refine b_iload_n hO dX12_rank_36 0 rfl rfl ?_
          refine b_bipush hO dX12_rank_37 ic_b_39 ?_
          refine b_icmp_eq hO dX12_rank_39 (tgt := 48) (by decide) ?_ ?_
          · refine b_iconst hO dX12_rank_48 ic_i_4 ?_
            refine b_goto hO dX12_rank_49 (tgt := 70) (by decide) ?_
            exact b_iret hO dX12_rank_70
          · refine b_iload_n hO dX12_rank_42 0 rfl rfl ?_
            refine b_bipush hO dX12_rank_43 ic_b_40 ?_
            refine b_icmp_ne hO dX12_rank_45 (tgt := 52) (by decide) ?_ ?_
            · refine b_iload_n hO dX12_rank_52 0 rfl rfl ?_
              refine b_bipush hO dX12_rank_53 ic_b_31 ?_
              refine b_icmp_eq hO dX12_rank_55 (tgt := 64) (by decide) ?_ ?_
              · refine b_iconst hO dX12_rank_64 ic_i_5 ?_
                refine b_goto hO dX12_rank_65 (tgt := 70) (by decide) ?_
                exact b_iret hO dX12_rank_70
              · refine b_iload_n hO dX12_rank_58 0 rfl rfl ?_
                refine b_bipush hO dX12_rank_59 ic_b_32 ?_
                refine b_icmp_ne hO dX12_rank_61 (tgt := 68) (by decide) ?_ ?_
                · refine b_bipush hO dX12_rank_68 ic_b_6 ?_
                  exact b_iret hO dX12_rank_70
                · refine b_iconst hO dX12_rank_64 ic_i_5 ?_
                  refine b_goto hO dX12_rank_65 (tgt := 70) (by decide) ?_
                  exact b_iret hO dX12_rank_70
            · refine b_iconst hO dX12_rank_48 ic_i_4 ?_
              refine b_goto hO dX12_rank_49 (tgt := 70) (by decide) ?_
              exact b_iret hO dX12_rank_70
      · refine b_iconst hO dX12_rank_26 ic_i_3 ?_
        refine b_goto hO dX12_rank_27 (tgt := 70) (by decide) ?_
        exact b_iret hO dX12_rank_70
    · refine b_iconst hO dX12_rank_16 ic_i_2 ?_
      refine b_goto hO dX12_rank_17 (tgt := 70) (by decide) ?_
      exact b_iret hO dX12_rank_70
  · refine b_iconst hO dX12_rank_6 ic_i_1 ?_
    refine b_goto hO dX12_rank_7 (tgt := 70) (by decide) ?_
    exact b_iret hO dX12_rank_70
theorem ctX12_rank (n0 : Nat) (hI : Inj LY ad) (x0 : Int32) (M : Mem) : CT l LY D cy ad yX12_rank cX12_rank 1 (some .int) 1 (QI LY D cy ad) [.int x0] M (fX12_rank n0 x0 M) :=
  CT.mk LYok hI (by decide) (Nat.le_of_ble_eq_true rfl) (fun hO => tfX12_rank n0 hO x0 M)
end
