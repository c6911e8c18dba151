section
variable {p : Program} {l : Launch} {e : Env} {s : State} {m : MethodId} {args : Array Value} {below : List Frame} {meth : Method} {c : Code} {D : va_G} {cy : Nat → ClassId} {ad : Nat → Nat} {dd : Nat}

/-! X8_letterOf -/
def bX8_letterOf_4 (n0 : Nat) (k4 : Int32 → Int32 → Int32 → Mem → Option (Int32 × Mem)) (x1 : Int32) (x2 : Int32) (x3 : Int32) (M : Mem) : Option (Int32 × Mem) :=
  if x3 ≤ x1 then
    if (27 : Int32) = 0 then none else
    some ((rem32 x2 (27 : Int32)), M)
  else
    if (27 : Int32) = 0 then none else
    bnd (x2 / (27 : Int32)) fun x2_13 =>
    k4 x1 x2_13 (x3 + (-1 : Int32)) M
def fX8_letterOf_4 (n0 : Nat) : Int32 → Int32 → Int32 → Mem → Option (Int32 × Mem) := loopN (bX8_letterOf_4 n0) (fun _ _ _ _ => none) n0
def fX8_letterOf (n0 : Nat) (x0 : Int32) (x1 : Int32) (M : Mem) : Option (Int32 × Mem) :=
  fX8_letterOf_4 n0 x1 x0 (5 : Int32) M
theorem tbX8_letterOf_4 (n0 : Nat) (hO : OKc p (rmL 1) s m args meth c LX D cy ad cX8_letterOf RX8 4 1 (some .int)) (k4 : Int32 → Int32 → Int32 → Mem → Option (Int32 × Mem)) (hk4 : ∀ (x1 : Int32) (x2 : Int32) (x3 : Int32) (M : Mem), BL p l e (rmL 1) s m args below meth c LX D cy ad 4 (QI LX D cy ad) 4 [(1, .int x1), (2, .int x2), (3, .int x3)] [] M (k4 x1 x2 x3 M)) (x1 : Int32) (x2 : Int32) (x3 : Int32) (M : Mem) : BL p l e (rmL 1) s m args below meth c LX D cy ad 4 (QI LX D cy ad) 4 [(1, .int x1), (2, .int x2), (3, .int x3)] [] M (bX8_letterOf_4 n0 k4 x1 x2 x3 M) := by
  unfold bX8_letterOf_4
  refine b_iload_n hO dX8_letterOf_4 2 rfl rfl ?_
  refine b_iload_n hO dX8_letterOf_5 0 rfl rfl ?_
  refine b_icmp_le hO dX8_letterOf_6 (tgt := 20) (by decide) ?_ ?_
  · refine b_iload_n hO dX8_letterOf_20 1 rfl rfl ?_
    refine b_bipush hO dX8_letterOf_21 ic_b_27 ?_
    refine b_irem hO dX8_letterOf_23 ?_
    exact b_iret hO dX8_letterOf_24
  · refine b_iload_n hO dX8_letterOf_9 1 rfl rfl ?_
    refine b_bipush hO dX8_letterOf_10 ic_b_27 ?_
    refine b_idiv hO dX8_letterOf_12 ?_
    refine b_topI (fun x2_13 => ?_)
    refine b_istore_n hO dX8_letterOf_13 rfl (by decide) (lv' := [(2, .int _), (1, .int _), (3, .int _)]) rfl ?_
    refine b_iinc hO dX8_letterOf_14 2 rfl ic_i_m1 (by decide) (lv' := [(3, .int _), (2, .int _), (1, .int _)]) rfl ?_
    refine b_goto hO dX8_letterOf_17 (tgt := 4) (by decide) ?_
    refine b_sub [2, 1, 0] rfl ?_
    exact hk4 _ _ _ _
theorem lX8_letterOf_4 (n0 : Nat) (hO : OKc p (rmL 1) s m args meth c LX D cy ad cX8_letterOf RX8 4 1 (some .int)) : ∀ (w : Nat) (x1 : Int32) (x2 : Int32) (x3 : Int32) (M : Mem), BL p l e (rmL 1) s m args below meth c LX D cy ad 4 (QI LX D cy ad) 4 [(1, .int x1), (2, .int x2), (3, .int x3)] [] M (loopN (bX8_letterOf_4 n0) (fun _ _ _ _ => none) w x1 x2 x3 M) := by
  intro w
  induction w with
  | zero =>
    intros
    exact b_none
  | succ w ih =>
    intro x1 x2 x3 M
    exact tbX8_letterOf_4 n0 hO _ ih x1 x2 x3 M
theorem tfX8_letterOf_4 (n0 : Nat) (hO : OKc p (rmL 1) s m args meth c LX D cy ad cX8_letterOf RX8 4 1 (some .int)) (x1 : Int32) (x2 : Int32) (x3 : Int32) (M : Mem) : BL p l e (rmL 1) s m args below meth c LX D cy ad 4 (QI LX D cy ad) 4 [(1, .int x1), (2, .int x2), (3, .int x3)] [] M (fX8_letterOf_4 n0 x1 x2 x3 M) := lX8_letterOf_4 n0 hO n0 x1 x2 x3 M
theorem tfX8_letterOf (n0 : Nat) (hO : OKc p (rmL 1) s m args meth c LX D cy ad cX8_letterOf RX8 4 1 (some .int)) (x0 : Int32) (x1 : Int32) (M : Mem) : BL p l e (rmL 1) s m args below meth c LX D cy ad 4 (QI LX D cy ad) 0 [(0, .int x0), (1, .int x1)] [] M (fX8_letterOf n0 x0 x1 M) := by
  unfold fX8_letterOf
  refine b_iload_n hO dX8_letterOf_0 0 rfl rfl ?_
  refine b_istore_n hO dX8_letterOf_1 rfl (by decide) (lv' := [(2, .int _), (0, .int _), (1, .int _)]) rfl ?_
  refine b_iconst hO dX8_letterOf_2 ic_i_5 ?_
  refine b_istore_n hO dX8_letterOf_3 rfl (by decide) (lv' := [(3, .int _), (2, .int _), (0, .int _), (1, .int _)]) rfl ?_
  refine b_sub [3, 1, 0] rfl ?_
  exact tfX8_letterOf_4 n0 hO _ _ _ _
theorem ctX8_letterOf (n0 : Nat) (hI : Inj LX ad) (x0 : Int32) (x1 : Int32) (M : Mem) : CT l LX D cy ad yX8_letterOf cX8_letterOf 4 (some .int) 1 (QI LX D cy ad) [.int x0, .int x1] M (fX8_letterOf n0 x0 x1 M) :=
  CT.mk LXok hI (by decide) (Nat.le_of_ble_eq_true rfl) (fun hO => tfX8_letterOf n0 hO x0 x1 M)
/-! X8_fillUp -/
def bX8_fillUp_4 (n0 : Nat) (k4 : Int32 → Int32 → Mem → Option (Int32 × Mem)) (x2 : Int32) (x3 : Int32) (M : Mem) : Option (Int32 × Mem) :=
  if (6 : Int32) ≤ x3 then
    some (x2, M)
  else
    bnd (x2 * (27 : Int32)) fun x2_14 =>
    k4 x2_14 (x3 + (1 : Int32)) M
def fX8_fillUp_4 (n0 : Nat) : Int32 → Int32 → Mem → Option (Int32 × Mem) := loopN (bX8_fillUp_4 n0) (fun _ _ _ => none) n0
def fX8_fillUp (n0 : Nat) (x0 : Int32) (x1 : Int32) (M : Mem) : Option (Int32 × Mem) :=
  fX8_fillUp_4 n0 x0 x1 M
theorem tbX8_fillUp_4 (n0 : Nat) (hO : OKc p (rmL 1) s m args meth c LX D cy ad cX8_fillUp RX8 4 1 (some .int)) (k4 : Int32 → Int32 → Mem → Option (Int32 × Mem)) (hk4 : ∀ (x2 : Int32) (x3 : Int32) (M : Mem), BL p l e (rmL 1) s m args below meth c LX D cy ad 4 (QI LX D cy ad) 4 [(2, .int x2), (3, .int x3)] [] M (k4 x2 x3 M)) (x2 : Int32) (x3 : Int32) (M : Mem) : BL p l e (rmL 1) s m args below meth c LX D cy ad 4 (QI LX D cy ad) 4 [(2, .int x2), (3, .int x3)] [] M (bX8_fillUp_4 n0 k4 x2 x3 M) := by
  unfold bX8_fillUp_4
  refine b_iload_n hO dX8_fillUp_4 1 rfl rfl ?_
  refine b_bipush hO dX8_fillUp_5 ic_b_6 ?_
  refine b_icmp_ge hO dX8_fillUp_7 (tgt := 21) (by decide) ?_ ?_
  · refine b_iload_n hO dX8_fillUp_21 0 rfl rfl ?_
    exact b_iret hO dX8_fillUp_22
  · refine b_iload_n hO dX8_fillUp_10 0 rfl rfl ?_
    refine b_bipush hO dX8_fillUp_11 ic_b_27 ?_
    refine b_imul hO dX8_fillUp_13 ?_
    refine b_topI (fun x2_14 => ?_)
    refine b_istore_n hO dX8_fillUp_14 rfl (by decide) (lv' := [(2, .int _), (3, .int _)]) rfl ?_
    refine b_iinc hO dX8_fillUp_15 1 rfl ic_i_1 (by decide) (lv' := [(3, .int _), (2, .int _)]) rfl ?_
    refine b_goto hO dX8_fillUp_18 (tgt := 4) (by decide) ?_
    refine b_sub [1, 0] rfl ?_
    exact hk4 _ _ _
theorem lX8_fillUp_4 (n0 : Nat) (hO : OKc p (rmL 1) s m args meth c LX D cy ad cX8_fillUp RX8 4 1 (some .int)) : ∀ (w : Nat) (x2 : Int32) (x3 : Int32) (M : Mem), BL p l e (rmL 1) s m args below meth c LX D cy ad 4 (QI LX D cy ad) 4 [(2, .int x2), (3, .int x3)] [] M (loopN (bX8_fillUp_4 n0) (fun _ _ _ => none) w x2 x3 M) := by
  intro w
  induction w with
  | zero =>
    intros
    exact b_none
  | succ w ih =>
    intro x2 x3 M
    exact tbX8_fillUp_4 n0 hO _ ih x2 x3 M
theorem tfX8_fillUp_4 (n0 : Nat) (hO : OKc p (rmL 1) s m args meth c LX D cy ad cX8_fillUp RX8 4 1 (some .int)) (x2 : Int32) (x3 : Int32) (M : Mem) : BL p l e (rmL 1) s m args below meth c LX D cy ad 4 (QI LX D cy ad) 4 [(2, .int x2), (3, .int x3)] [] M (fX8_fillUp_4 n0 x2 x3 M) := lX8_fillUp_4 n0 hO n0 x2 x3 M
theorem tfX8_fillUp (n0 : Nat) (hO : OKc p (rmL 1) s m args meth c LX D cy ad cX8_fillUp RX8 4 1 (some .int)) (x0 : Int32) (x1 : Int32) (M : Mem) : BL p l e (rmL 1) s m args below meth c LX D cy ad 4 (QI LX D cy ad) 0 [(0, .int x0), (1, .int x1)] [] M (fX8_fillUp n0 x0 x1 M) := by
  unfold fX8_fillUp
  refine b_iload_n hO dX8_fillUp_0 0 rfl rfl ?_
  refine b_istore_n hO dX8_fillUp_1 rfl (by decide) (lv' := [(2, .int _), (0, .int _), (1, .int _)]) rfl ?_
  refine b_iload_n hO dX8_fillUp_2 2 rfl rfl ?_
  refine b_istore_n hO dX8_fillUp_3 rfl (by decide) (lv' := [(3, .int _), (2, .int _), (0, .int _), (1, .int _)]) rfl ?_
  refine b_sub [1, 0] rfl ?_
  exact tfX8_fillUp_4 n0 hO _ _ _
theorem ctX8_fillUp (n0 : Nat) (hI : Inj LX ad) (x0 : Int32) (x1 : Int32) (M : Mem) : CT l LX D cy ad yX8_fillUp cX8_fillUp 4 (some .int) 1 (QI LX D cy ad) [.int x0, .int x1] M (fX8_fillUp n0 x0 x1 M) :=
  CT.mk LXok hI (by decide) (Nat.le_of_ble_eq_true rfl) (fun hO => tfX8_fillUp n0 hO x0 x1 M)
/-! X8_isWordOrNumber -/
def fX8_isWordOrNumber (n0 : Nat) (M : Mem) : Option (Int32 × Mem) :=
  if (gI M 386) < (256 : Int32) then
    some ((0 : Int32), M)
  else
    if (gI M 386) = (259 : Int32) then
      some ((0 : Int32), M)
    else
      some ((1 : Int32), M)
theorem tfX8_isWordOrNumber (n0 : Nat) (hO : OKc p (rmL 1) s m args meth c LX D cy ad cX8_isWordOrNumber RX8 1 1 (some .boolean)) (M : Mem) : BL p l e (rmL 1) s m args below meth c LX D cy ad 1 (QI LX D cy ad) 0 [(0, .ref (ad 3))] [] M (fX8_isWordOrNumber n0 M) := by
  unfold fX8_isWordOrNumber
  refine b_aload_n hO dX8_isWordOrNumber_0 0 rfl rfl ?_
  refine b_get hO flX8_15 kLX_3 (v := .int (gI _ 386)) rfl dX8_isWordOrNumber_1 ?_
  refine b_sipush hO dX8_isWordOrNumber_4 ic_s_256 ?_
  refine b_icmp_lt hO dX8_isWordOrNumber_7 (tgt := 24) (by decide) ?_ ?_
  · refine b_iconst hO dX8_isWordOrNumber_24 ic_i_0 ?_
    exact b_zretc hO (Or.inl rfl) dX8_isWordOrNumber_25
  · refine b_aload_n hO dX8_isWordOrNumber_10 0 rfl rfl ?_
    refine b_get hO flX8_15 kLX_3 (v := .int (gI _ 386)) rfl dX8_isWordOrNumber_11 ?_
    refine b_sipush hO dX8_isWordOrNumber_14 ic_s_259 ?_
    refine b_icmp_eq hO dX8_isWordOrNumber_17 (tgt := 24) (by decide) ?_ ?_
    · refine b_iconst hO dX8_isWordOrNumber_24 ic_i_0 ?_
      exact b_zretc hO (Or.inl rfl) dX8_isWordOrNumber_25
    · refine b_iconst hO dX8_isWordOrNumber_20 ic_i_1 ?_
      refine b_goto hO dX8_isWordOrNumber_21 (tgt := 25) (by decide) ?_
      exact b_zretc hO (Or.inr rfl) dX8_isWordOrNumber_25
theorem ctX8_isWordOrNumber (n0 : Nat) (hI : Inj LX ad) (M : Mem) : CT l LX D cy ad yX8_isWordOrNumber cX8_isWordOrNumber 1 (some .boolean) 1 (QI LX D cy ad) [.ref (ad 3)] M (fX8_isWordOrNumber n0 M) :=
  CT.mk LXok hI (by decide) (Nat.le_of_ble_eq_true rfl) (fun hO => tfX8_isWordOrNumber n0 hO M)
/-! X8_skipBlanks -/
def fX8_skipBlanks_42 (n0 : Nat) (k5 : Int32 → Mem → Option (Mem)) (x1 : Int32) (M : Mem) : Option (Mem) :=
  bnd (sI M 390 (x1 + (1 : Int32))) fun M46 =>
  k5 (x1 + (1 : Int32)) M46
def bX8_skipBlanks_5 (n0 : Nat) (k5 : Int32 → Mem → Option (Mem)) (x1 : Int32) (M : Mem) : Option (Mem) :=
  if (gI M 641) ≤ x1 then
    some M
  else
    (fX7_at n0 x1 M).bind fun z21 =>
    if z21.1 = (32 : Int32) then
      fX8_skipBlanks_42 n0 k5 x1 z21.2
    else
      (fX7_at n0 x1 z21.2).bind fun z34 =>
      if z34.1 = (10 : Int32) then
        fX8_skipBlanks_42 n0 k5 x1 z34.2
      else
        some z34.2
def fX8_skipBlanks_5 (n0 : Nat) : Int32 → Mem → Option (Mem) := loopN (bX8_skipBlanks_5 n0) (fun _ _ => none) n0
def fX8_skipBlanks (n0 : Nat) (M : Mem) : Option (Mem) :=
  bnd (gI M 390) fun x1_4 =>
  fX8_skipBlanks_5 n0 x1_4 M
theorem tfX8_skipBlanks_42 (n0 : Nat) (hO : OKc p (rmL 2) s m args meth c LX D cy ad cX8_skipBlanks RX8 2 2 none) (k5 : Int32 → Mem → Option (Mem)) (hk5 : ∀ (x1 : Int32) (M : Mem), BL p l e (rmL 2) s m args below meth c LX D cy ad 2 (QV LX D cy ad) 5 [(0, .ref (ad 3)), (1, .int x1)] [] M (k5 x1 M)) (x1 : Int32) (M : Mem) : BL p l e (rmL 2) s m args below meth c LX D cy ad 2 (QV LX D cy ad) 42 [(0, .ref (ad 3)), (1, .int x1)] [] M (fX8_skipBlanks_42 n0 k5 x1 M) := by
  unfold fX8_skipBlanks_42
  refine b_aload_n hO dX8_skipBlanks_42 0 rfl rfl ?_
  refine b_iload_n hO dX8_skipBlanks_43 1 rfl rfl ?_
  refine b_iconst hO dX8_skipBlanks_44 ic_i_1 ?_
  refine b_iadd hO dX8_skipBlanks_45 ?_
  refine b_putI hO flX8_28 kLX_3 rfl rfl rfl (id := 390) rfl dX8_skipBlanks_46 ?_
  refine b_bnd (fun M46 => ?_)
  refine b_iinc hO dX8_skipBlanks_49 1 rfl ic_i_1 (by decide) (lv' := [(1, .int _), (0, .ref _)]) rfl ?_
  refine b_goto hO dX8_skipBlanks_52 (tgt := 5) (by decide) ?_
  refine b_sub [1, 0] rfl ?_
  exact hk5 _ _
theorem tbX8_skipBlanks_5 (n0 : Nat) (hO : OKc p (rmL 2) s m args meth c LX D cy ad cX8_skipBlanks RX8 2 2 none) (k5 : Int32 → Mem → Option (Mem)) (hk5 : ∀ (x1 : Int32) (M : Mem), BL p l e (rmL 2) s m args below meth c LX D cy ad 2 (QV LX D cy ad) 5 [(0, .ref (ad 3)), (1, .int x1)] [] M (k5 x1 M)) (x1 : Int32) (M : Mem) : BL p l e (rmL 2) s m args below meth c LX D cy ad 2 (QV LX D cy ad) 5 [(0, .ref (ad 3)), (1, .int x1)] [] M (bX8_skipBlanks_5 n0 k5 x1 M) := by
  unfold bX8_skipBlanks_5
  refine b_iload_n hO dX8_skipBlanks_5 1 rfl rfl ?_
  refine b_aload_n hO dX8_skipBlanks_6 0 rfl rfl ?_
  refine b_get hO flX8_37 kLX_3 (v := .ref (ad 5)) rfl dX8_skipBlanks_7 ?_
  refine b_get hO flX8_93 kLX_5 (v := .int (gI _ 641)) rfl dX8_skipBlanks_10 ?_
  refine b_icmp_ge hO dX8_skipBlanks_13 (tgt := 55) (by decide) ?_ ?_
  · exact b_vret hO dX8_skipBlanks_55
  · refine b_aload_n hO dX8_skipBlanks_16 0 rfl rfl ?_
    refine b_get hO flX8_37 kLX_3 (v := .ref (ad 5)) rfl dX8_skipBlanks_17 ?_
    refine b_iload_n hO dX8_skipBlanks_20 1 rfl rfl ?_
    refine b_callVI hO mdX7_at mvX7_at w711 (ci := 7) rfl rfl (by decide) kLX_5 (As := [.int _]) (st := []) (ctX7_at n0 hO.2.2.2.2.2.2.1 _ _) (Nat.le_of_ble_eq_true rfl) rfl rfl (Nat.le_of_ble_eq_true rfl) dX8_skipBlanks_21 (fun z21 => ?_)
    refine b_bipush hO dX8_skipBlanks_24 ic_b_32 ?_
    refine b_icmp_eq hO dX8_skipBlanks_26 (tgt := 42) (by decide) ?_ ?_
    · exact tfX8_skipBlanks_42 n0 hO k5 hk5 _ _
    · refine b_aload_n hO dX8_skipBlanks_29 0 rfl rfl ?_
      refine b_get hO flX8_37 kLX_3 (v := .ref (ad 5)) rfl dX8_skipBlanks_30 ?_
      refine b_iload_n hO dX8_skipBlanks_33 1 rfl rfl ?_
      refine b_callVI hO mdX7_at mvX7_at w711 (ci := 7) rfl rfl (by decide) kLX_5 (As := [.int _]) (st := []) (ctX7_at n0 hO.2.2.2.2.2.2.1 _ _) (Nat.le_of_ble_eq_true rfl) rfl rfl (Nat.le_of_ble_eq_true rfl) dX8_skipBlanks_34 (fun z34 => ?_)
      refine b_bipush hO dX8_skipBlanks_37 ic_b_10 ?_
      refine b_icmp_ne hO dX8_skipBlanks_39 (tgt := 55) (by decide) ?_ ?_
      · exact b_vret hO dX8_skipBlanks_55
      · exact tfX8_skipBlanks_42 n0 hO k5 hk5 _ _
theorem lX8_skipBlanks_5 (n0 : Nat) (hO : OKc p (rmL 2) s m args meth c LX D cy ad cX8_skipBlanks RX8 2 2 none) : ∀ (w : Nat) (x1 : Int32) (M : Mem), BL p l e (rmL 2) s m args below meth c LX D cy ad 2 (QV LX D cy ad) 5 [(0, .ref (ad 3)), (1, .int x1)] [] M (loopN (bX8_skipBlanks_5 n0) (fun _ _ => none) w x1 M) := by
  intro w
  induction w with
  | zero =>
    intros
    exact b_none
  | succ w ih =>
    intro x1 M
    exact tbX8_skipBlanks_5 n0 hO _ ih x1 M
theorem tfX8_skipBlanks_5 (n0 : Nat) (hO : OKc p (rmL 2) s m args meth c LX D cy ad cX8_skipBlanks RX8 2 2 none) (x1 : Int32) (M : Mem) : BL p l e (rmL 2) s m args below meth c LX D cy ad 2 (QV LX D cy ad) 5 [(0, .ref (ad 3)), (1, .int x1)] [] M (fX8_skipBlanks_5 n0 x1 M) := lX8_skipBlanks_5 n0 hO n0 x1 M
theorem tfX8_skipBlanks (n0 : Nat) (hO : OKc p (rmL 2) s m args meth c LX D cy ad cX8_skipBlanks RX8 2 2 none) (M : Mem) : BL p l e (rmL 2) s m args below meth c LX D cy ad 2 (QV LX D cy ad) 0 [(0, .ref (ad 3))] [] M (fX8_skipBlanks n0 M) := by
  unfold fX8_skipBlanks
  refine b_aload_n hO dX8_skipBlanks_0 0 rfl rfl ?_
  refine b_get hO flX8_28 kLX_3 (v := .int (gI _ 390)) rfl dX8_skipBlanks_1 ?_
  refine b_topI (fun x1_4 => ?_)
  refine b_istore_n hO dX8_skipBlanks_4 rfl (by decide) (lv' := [(1, .int _), (0, .ref _)]) rfl ?_
  refine b_sub [1, 0] rfl ?_
  exact tfX8_skipBlanks_5 n0 hO _ _
theorem ctX8_skipBlanks (n0 : Nat) (hI : Inj LX ad) (M : Mem) : CT l LX D cy ad yX8_skipBlanks cX8_skipBlanks 2 none 2 (QV LX D cy ad) [.ref (ad 3)] M (fX8_skipBlanks n0 M) :=
  CT.mk LXok hI (by decide) (Nat.le_of_ble_eq_true rfl) (fun hO => tfX8_skipBlanks n0 hO M)
/-! X8_isLetter -/
def fX8_isLetter (n0 : Nat) (x0 : Int32) (M : Mem) : Option (Int32 × Mem) :=
  if x0 < (97 : Int32) then
    some ((0 : Int32), M)
  else
    if (122 : Int32) < x0 then
      some ((0 : Int32), M)
    else
      some ((1 : Int32), M)
theorem tfX8_isLetter (n0 : Nat) (hO : OKc p (rmL 1) s m args meth c LX D cy ad cX8_isLetter RX8 1 1 (some .boolean)) (x0 : Int32) (M : Mem) : BL p l e (rmL 1) s m args below meth c LX D cy ad 1 (QI LX D cy ad) 0 [(0, .int x0)] [] M (fX8_isLetter n0 x0 M) := by
  unfold fX8_isLetter
  refine b_iload_n hO dX8_isLetter_0 0 rfl rfl ?_
  refine b_bipush hO dX8_isLetter_1 ic_b_97 ?_
  refine b_icmp_lt hO dX8_isLetter_3 (tgt := 16) (by decide) ?_ ?_
  · refine b_iconst hO dX8_isLetter_16 ic_i_0 ?_
    exact b_zretc hO (Or.inl rfl) dX8_isLetter_17
  · refine b_iload_n hO dX8_isLetter_6 0 rfl rfl ?_
    refine b_bipush hO dX8_isLetter_7 ic_b_122 ?_
    refine b_icmp_gt hO dX8_isLetter_9 (tgt := 16) (by decide) ?_ ?_
    · refine b_iconst hO dX8_isLetter_16 ic_i_0 ?_
      exact b_zretc hO (Or.inl rfl) dX8_isLetter_17
    · refine b_iconst hO dX8_isLetter_12 ic_i_1 ?_
      refine b_goto hO dX8_isLetter_13 (tgt := 17) (by decide) ?_
      exact b_zretc hO (Or.inr rfl) dX8_isLetter_17
theorem ctX8_isLetter (n0 : Nat) (hI : Inj LX ad) (x0 : Int32) (M : Mem) : CT l LX D cy ad yX8_isLetter cX8_isLetter 1 (some .boolean) 1 (QI LX D cy ad) [.int x0] M (fX8_isLetter n0 x0 M) :=
  CT.mk LXok hI (by decide) (Nat.le_of_ble_eq_true rfl) (fun hO => tfX8_isLetter n0 hO x0 M)
/-! X8_kindOf -/
def bX8_kindOf_2 (n0 : Nat) (k2 : Int32 → Int32 → Mem → Option (Int32 × Mem)) (x1 : Int32) (x2 : Int32) (M : Mem) : Option (Int32 × Mem) :=
  if (25 : Int32) ≤ x2 then
    some ((257 : Int32), M)
  else
    if oob x2 25 then none else
    if (gA M 4 (Int32.toNatClampNeg x2)) = x1 then
      some (((260 : Int32) + x2), M)
    else
      k2 x1 (x2 + (1 : Int32)) M
def fX8_kindOf_2 (n0 : Nat) : Int32 → Int32 → Mem → Option (Int32 × Mem) := loopN (bX8_kindOf_2 n0) (fun _ _ _ => none) n0
def fX8_kindOf (n0 : Nat) (x1 : Int32) (M : Mem) : Option (Int32 × Mem) :=
  fX8_kindOf_2 n0 x1 (0 : Int32) M
theorem tbX8_kindOf_2 (n0 : Nat) (hO : OKc p (rmL 1) s m args meth c LX D cy ad cX8_kindOf RX8 3 1 (some .int)) (k2 : Int32 → Int32 → Mem → Option (Int32 × Mem)) (hk2 : ∀ (x1 : Int32) (x2 : Int32) (M : Mem), BL p l e (rmL 1) s m args below meth c LX D cy ad 3 (QI LX D cy ad) 2 [(0, .ref (ad 3)), (1, .int x1), (2, .int x2)] [] M (k2 x1 x2 M)) (x1 : Int32) (x2 : Int32) (M : Mem) : BL p l e (rmL 1) s m args below meth c LX D cy ad 3 (QI LX D cy ad) 2 [(0, .ref (ad 3)), (1, .int x1), (2, .int x2)] [] M (bX8_kindOf_2 n0 k2 x1 x2 M) := by
  unfold bX8_kindOf_2
  refine b_iload_n hO dX8_kindOf_2 2 rfl rfl ?_
  refine b_bipush hO dX8_kindOf_3 ic_b_25 ?_
  refine b_icmp_ge hO dX8_kindOf_5 (tgt := 30) (by decide) ?_ ?_
  · refine b_sipush hO dX8_kindOf_30 ic_s_257 ?_
    exact b_iret hO dX8_kindOf_33
  · refine b_aload_n hO dX8_kindOf_8 0 rfl rfl ?_
    refine b_get hO flX8_11 kLX_3 (v := .ref (ad 4)) rfl dX8_kindOf_9 ?_
    refine b_iload_n hO dX8_kindOf_12 2 rfl rfl ?_
    refine b_iald hO kLX_4 (n := 25) rfl dX8_kindOf_13 ?_
    refine b_iload_n hO dX8_kindOf_14 1 rfl rfl ?_
    refine b_icmp_ne hO dX8_kindOf_15 (tgt := 24) (by decide) ?_ ?_
    · refine b_iinc hO dX8_kindOf_24 2 rfl ic_i_1 (by decide) (lv' := [(2, .int _), (0, .ref _), (1, .int _)]) rfl ?_
      refine b_goto hO dX8_kindOf_27 (tgt := 2) (by decide) ?_
      refine b_sub [1, 2, 0] rfl ?_
      exact hk2 _ _ _
    · refine b_sipush hO dX8_kindOf_18 ic_s_260 ?_
      refine b_iload_n hO dX8_kindOf_21 2 rfl rfl ?_
      refine b_iadd hO dX8_kindOf_22 ?_
      exact b_iret hO dX8_kindOf_23
theorem lX8_kindOf_2 (n0 : Nat) (hO : OKc p (rmL 1) s m args meth c LX D cy ad cX8_kindOf RX8 3 1 (some .int)) : ∀ (w : Nat) (x1 : Int32) (x2 : Int32) (M : Mem), BL p l e (rmL 1) s m args below meth c LX D cy ad 3 (QI LX D cy ad) 2 [(0, .ref (ad 3)), (1, .int x1), (2, .int x2)] [] M (loopN (bX8_kindOf_2 n0) (fun _ _ _ => none) w x1 x2 M) := by
  intro w
  induction w with
  | zero =>
    intros
    exact b_none
  | succ w ih =>
    intro x1 x2 M
    exact tbX8_kindOf_2 n0 hO _ ih x1 x2 M
theorem tfX8_kindOf_2 (n0 : Nat) (hO : OKc p (rmL 1) s m args meth c LX D cy ad cX8_kindOf RX8 3 1 (some .int)) (x1 : Int32) (x2 : Int32) (M : Mem) : BL p l e (rmL 1) s m args below meth c LX D cy ad 3 (QI LX D cy ad) 2 [(0, .ref (ad 3)), (1, .int x1), (2, .int x2)] [] M (fX8_kindOf_2 n0 x1 x2 M) := lX8_kindOf_2 n0 hO n0 x1 x2 M
theorem tfX8_kindOf (n0 : Nat) (hO : OKc p (rmL 1) s m args meth c LX D cy ad cX8_kindOf RX8 3 1 (some .int)) (x1 : Int32) (M : Mem) : BL p l e (rmL 1) s m args below meth c LX D cy ad 3 (QI LX D cy ad) 0 [(0, .ref (ad 3)), (1, .int x1)] [] M (fX8_kindOf n0 x1 M) := by
  unfold fX8_kindOf
  refine b_iconst hO dX8_kindOf_0 ic_i_0 ?_
  refine b_istore_n hO dX8_kindOf_1 rfl (by decide) (lv' := [(2, .int _), (0, .ref _), (1, .int _)]) rfl ?_
  refine b_sub [1, 2, 0] rfl ?_
  exact tfX8_kindOf_2 n0 hO _ _ _
theorem ctX8_kindOf (n0 : Nat) (hI : Inj LX ad) (x1 : Int32) (M : Mem) : CT l LX D cy ad yX8_kindOf cX8_kindOf 3 (some .int) 1 (QI LX D cy ad) [.ref (ad 3), .int x1] M (fX8_kindOf n0 x1 M) :=
  CT.mk LXok hI (by decide) (Nat.le_of_ble_eq_true rfl) (fun hO => tfX8_kindOf n0 hO x1 M)
/-! X8_readWord -/
def fX8_readWord_62 (n0 : Nat) (k7 : Int32 → Int32 → Mem → Option (Mem)) (x1 : Int32) (x2 : Int32) (M : Mem) : Option (Mem) :=
  bnd (sI M 390 (x2 + (1 : Int32))) fun M66 =>
  k7 x1 (x2 + (1 : Int32)) M66
def fX8_readWord_75 (n0 : Nat) (x1 : Int32) (M : Mem) : Option (Mem) :=
  if ((gI M 390) - (gI M 387)) ≤ (6 : Int32) then
    (fX8_fillUp n0 x1 ((gI M 390) - (gI M 387)) M).bind fun z119 =>
    bnd (sI z119.2 389 z119.1) fun M122 =>
    (fX8_kindOf n0 (gI M122 389) M122).bind fun z131 =>
    some (sI z131.2 386 z131.1)
  else
    bnd (sI M 386 (258 : Int32)) fun M93 =>
    some (sI M93 388 ((gI M93 387) + (6 : Int32)))
def bX8_readWord_7 (n0 : Nat) (k7 : Int32 → Int32 → Mem → Option (Mem)) (x1 : Int32) (x2 : Int32) (M : Mem) : Option (Mem) :=
  if (gI M 641) ≤ x2 then
    fX8_readWord_75 n0 x1 M
  else
    (fX7_at n0 x2 M).bind fun z23 =>
    (fX8_isLetter n0 z23.1 z23.2).bind fun z26 =>
    if z26.1 = 0 then
      fX8_readWord_75 n0 x1 z26.2
    else
      if (6 : Int32) ≤ (x2 - (gI z26.2 387)) then
        fX8_readWord_62 n0 k7 x1 x2 z26.2
      else
        (fX7_at n0 x2 z26.2).bind fun z52 =>
        bnd (((((27 : Int32) * x1) + z52.1) - (97 : Int32)) + (1 : Int32)) fun x1_61 =>
        fX8_readWord_62 n0 k7 x1_61 x2 z52.2
def fX8_readWord_7 (n0 : Nat) : Int32 → Int32 → Mem → Option (Mem) := loopN (bX8_readWord_7 n0) (fun _ _ _ => none) n0
def fX8_readWord (n0 : Nat) (M : Mem) : Option (Mem) :=
  bnd (gI M 387) fun x2_6 =>
  fX8_readWord_7 n0 (0 : Int32) x2_6 M
theorem tfX8_readWord_62 (n0 : Nat) (hO : OKc p (rmL 2) s m args meth c LX D cy ad cX8_readWord RX8 3 2 none) (k7 : Int32 → Int32 → Mem → Option (Mem)) (hk7 : ∀ (x1 : Int32) (x2 : Int32) (M : Mem), BL p l e (rmL 2) s m args below meth c LX D cy ad 3 (QV LX D cy ad) 7 [(0, .ref (ad 3)), (1, .int x1), (2, .int x2)] [] M (k7 x1 x2 M)) (x1 : Int32) (x2 : Int32) (M : Mem) : BL p l e (rmL 2) s m args below meth c LX D cy ad 3 (QV LX D cy ad) 62 [(0, .ref (ad 3)), (1, .int x1), (2, .int x2)] [] M (fX8_readWord_62 n0 k7 x1 x2 M) := by
  unfold fX8_readWord_62
  refine b_aload_n hO dX8_readWord_62 0 rfl rfl ?_
  refine b_iload_n hO dX8_readWord_63 2 rfl rfl ?_
  refine b_iconst hO dX8_readWord_64 ic_i_1 ?_
  refine b_iadd hO dX8_readWord_65 ?_
  refine b_putI hO flX8_28 kLX_3 rfl rfl rfl (id := 390) rfl dX8_readWord_66 ?_
  refine b_bnd (fun M66 => ?_)
  refine b_iinc hO dX8_readWord_69 2 rfl ic_i_1 (by decide) (lv' := [(2, .int _), (0, .ref _), (1, .int _)]) rfl ?_
  refine b_goto hO dX8_readWord_72 (tgt := 7) (by decide) ?_
  refine b_sub [1, 2, 0] rfl ?_
  exact hk7 _ _ _
theorem tfX8_readWord_75 (n0 : Nat) (hO : OKc p (rmL 2) s m args meth c LX D cy ad cX8_readWord RX8 3 2 none) (x1 : Int32) (M : Mem) : BL p l e (rmL 2) s m args below meth c LX D cy ad 3 (QV LX D cy ad) 75 [(0, .ref (ad 3)), (1, .int x1)] [] M (fX8_readWord_75 n0 x1 M) := by
  unfold fX8_readWord_75
  refine b_aload_n hO dX8_readWord_75 0 rfl rfl ?_
  refine b_get hO flX8_28 kLX_3 (v := .int (gI _ 390)) rfl dX8_readWord_76 ?_
  refine b_aload_n hO dX8_readWord_79 0 rfl rfl ?_
  refine b_get hO flX8_19 kLX_3 (v := .int (gI _ 387)) rfl dX8_readWord_80 ?_
  refine b_isub hO dX8_readWord_83 ?_
  refine b_bipush hO dX8_readWord_84 ic_b_6 ?_
  refine b_icmp_le hO dX8_readWord_86 (tgt := 108) (by decide) ?_ ?_
  · refine b_aload_n hO dX8_readWord_108 0 rfl rfl ?_
    refine b_iload_n hO dX8_readWord_109 1 rfl rfl ?_
    refine b_aload_n hO dX8_readWord_110 0 rfl rfl ?_
    refine b_get hO flX8_28 kLX_3 (v := .int (gI _ 390)) rfl dX8_readWord_111 ?_
    refine b_aload_n hO dX8_readWord_114 0 rfl rfl ?_
    refine b_get hO flX8_19 kLX_3 (v := .int (gI _ 387)) rfl dX8_readWord_115 ?_
    refine b_isub hO dX8_readWord_118 ?_
    refine b_callSI hO mdX8_fillUp w344 w343 (As := [.int _, .int _]) (st := [.ref _]) (ctX8_fillUp n0 hO.2.2.2.2.2.2.1 _ _ _) (Nat.le_of_ble_eq_true rfl) rfl rfl (Nat.le_of_ble_eq_true rfl) dX8_readWord_119 (fun z119 => ?_)
    refine b_putI hO flX8_25 kLX_3 rfl rfl rfl (id := 389) rfl dX8_readWord_122 ?_
    refine b_bnd (fun M122 => ?_)
    refine b_aload_n hO dX8_readWord_125 0 rfl rfl ?_
    refine b_aload_n hO dX8_readWord_126 0 rfl rfl ?_
    refine b_aload_n hO dX8_readWord_127 0 rfl rfl ?_
    refine b_get hO flX8_25 kLX_3 (v := .int (gI _ 389)) rfl dX8_readWord_128 ?_
    refine b_callVI hO mdX8_kindOf mvX8_kindOf w722 (ci := 8) rfl rfl (by decide) kLX_3 (As := [.int _]) (st := [.ref _]) (ctX8_kindOf n0 hO.2.2.2.2.2.2.1 _ _) (Nat.le_of_ble_eq_true rfl) rfl rfl (Nat.le_of_ble_eq_true rfl) dX8_readWord_131 (fun z131 => ?_)
    refine b_putI hO flX8_15 kLX_3 rfl rfl rfl (id := 386) rfl dX8_readWord_134 ?_
    exact b_vret hO dX8_readWord_137
  · refine b_aload_n hO dX8_readWord_89 0 rfl rfl ?_
    refine b_sipush hO dX8_readWord_90 ic_s_258 ?_
    refine b_putI hO flX8_15 kLX_3 rfl rfl rfl (id := 386) rfl dX8_readWord_93 ?_
    refine b_bnd (fun M93 => ?_)
    refine b_aload_n hO dX8_readWord_96 0 rfl rfl ?_
    refine b_aload_n hO dX8_readWord_97 0 rfl rfl ?_
    refine b_get hO flX8_19 kLX_3 (v := .int (gI _ 387)) rfl dX8_readWord_98 ?_
    refine b_bipush hO dX8_readWord_101 ic_b_6 ?_
    refine b_iadd hO dX8_readWord_103 ?_
    refine b_putI hO flX8_22 kLX_3 rfl rfl rfl (id := 388) rfl dX8_readWord_104 ?_
    exact b_vret hO dX8_readWord_107
theorem tbX8_readWord_7 (n0 : Nat) (hO : OKc p (rmL 2) s m args meth c LX D cy ad cX8_readWord RX8 3 2 none) (k7 : Int32 → Int32 → Mem → Option (Mem)) (hk7 : ∀ (x1 : Int32) (x2 : Int32) (M : Mem), BL p l e (rmL 2) s m args below meth c LX D cy ad 3 (QV LX D cy ad) 7 [(0, .ref (ad 3)), (1, .int x1), (2, .int x2)] [] M (k7 x1 x2 M)) (x1 : Int32) (x2 : Int32) (M : Mem) : BL p l e (rmL 2) s m args below meth c LX D cy ad 3 (QV LX D cy ad) 7 [(0, .ref (ad 3)), (1, .int x1), (2, .int x2)] [] M (bX8_readWord_7 n0 k7 x1 x2 M) := by
  unfold bX8_readWord_7
  refine b_iload_n hO dX8_readWord_7 2 rfl rfl ?_
  refine b_aload_n hO dX8_readWord_8 0 rfl rfl ?_
  refine b_get hO flX8_37 kLX_3 (v := .ref (ad 5)) rfl dX8_readWord_9 ?_
  refine b_get hO flX8_93 kLX_5 (v := .int (gI _ 641)) rfl dX8_readWord_12 ?_
  refine b_icmp_ge hO dX8_readWord_15 (tgt := 75) (by decide) ?_ ?_
  · refine b_sub [0, 1] rfl ?_
    exact tfX8_readWord_75 n0 hO _ _
  · refine b_aload_n hO dX8_readWord_18 0 rfl rfl ?_
    refine b_get hO flX8_37 kLX_3 (v := .ref (ad 5)) rfl dX8_readWord_19 ?_
    refine b_iload_n hO dX8_readWord_22 2 rfl rfl ?_
    refine b_callVI hO mdX7_at mvX7_at w711 (ci := 7) rfl rfl (by decide) kLX_5 (As := [.int _]) (st := []) (ctX7_at n0 hO.2.2.2.2.2.2.1 _ _) (Nat.le_of_ble_eq_true rfl) rfl rfl (Nat.le_of_ble_eq_true rfl) dX8_readWord_23 (fun z23 => ?_)
    refine b_callSI hO mdX8_isLetter w716 w715 (As := [.int _]) (st := []) (ctX8_isLetter n0 hO.2.2.2.2.2.2.1 _ _) (Nat.le_of_ble_eq_true rfl) rfl rfl (Nat.le_of_ble_eq_true rfl) dX8_readWord_26 (fun z26 => ?_)
    refine b_if_eq hO dX8_readWord_29 (tgt := 75) (by decide) ?_ ?_
    · refine b_sub [0, 1] rfl ?_
      exact tfX8_readWord_75 n0 hO _ _
    · refine b_iload_n hO dX8_readWord_32 2 rfl rfl ?_
      refine b_aload_n hO dX8_readWord_33 0 rfl rfl ?_
      refine b_get hO flX8_19 kLX_3 (v := .int (gI _ 387)) rfl dX8_readWord_34 ?_
      refine b_isub hO dX8_readWord_37 ?_
      refine b_bipush hO dX8_readWord_38 ic_b_6 ?_
      refine b_icmp_ge hO dX8_readWord_40 (tgt := 62) (by decide) ?_ ?_
      · exact tfX8_readWord_62 n0 hO k7 hk7 _ _ _
      · refine b_bipush hO dX8_readWord_43 ic_b_27 ?_
        refine b_iload_n hO dX8_readWord_45 1 rfl rfl ?_
        refine b_imul hO dX8_readWord_46 ?_
        refine b_aload_n hO dX8_readWord_47 0 rfl rfl ?_
        refine b_get hO flX8_37 kLX_3 (v := .ref (ad 5)) rfl dX8_readWord_48 ?_
        refine b_iload_n hO dX8_readWord_51 2 rfl rfl ?_
        refine b_callVI hO mdX7_at mvX7_at w711 (ci := 7) rfl rfl (by decide) kLX_5 (As := [.int _]) (st := [.int _]) (ctX7_at n0 hO.2.2.2.2.2.2.1 _ _) (Nat.le_of_ble_eq_true rfl) rfl rfl (Nat.le_of_ble_eq_true rfl) dX8_readWord_52 (fun z52 => ?_)
        refine b_iadd hO dX8_readWord_55 ?_
        refine b_bipush hO dX8_readWord_56 ic_b_97 ?_
        refine b_isub hO dX8_readWord_58 ?_
        refine b_iconst hO dX8_readWord_59 ic_i_1 ?_
        refine b_iadd hO dX8_readWord_60 ?_
        refine b_topI (fun x1_61 => ?_)
        refine b_istore_n hO dX8_readWord_61 rfl (by decide) (lv' := [(1, .int _), (0, .ref _), (2, .int _)]) rfl ?_
        refine b_sub [1, 0, 2] rfl ?_
        exact tfX8_readWord_62 n0 hO k7 hk7 _ _ _
theorem lX8_readWord_7 (n0 : Nat) (hO : OKc p (rmL 2) s m args meth c LX D cy ad cX8_readWord RX8 3 2 none) : ∀ (w : Nat) (x1 : Int32) (x2 : Int32) (M : Mem), BL p l e (rmL 2) s m args below meth c LX D cy ad 3 (QV LX D cy ad) 7 [(0, .ref (ad 3)), (1, .int x1), (2, .int x2)] [] M (loopN (bX8_readWord_7 n0) (fun _ _ _ => none) w x1 x2 M) := by
  intro w
  induction w with
  | zero =>
    intros
    exact b_none
  | succ w ih =>
    intro x1 x2 M
    exact tbX8_readWord_7 n0 hO _ ih x1 x2 M
theorem tfX8_readWord_7 (n0 : Nat) (hO : OKc p (rmL 2) s m args meth c LX D cy ad cX8_readWord RX8 3 2 none) (x1 : Int32) (x2 : Int32) (M : Mem) : BL p l e (rmL 2) s m args below meth c LX D cy ad 3 (QV LX D cy ad) 7 [(0, .ref (ad 3)), (1, .int x1), (2, .int x2)] [] M (fX8_readWord_7 n0 x1 x2 M) := lX8_readWord_7 n0 hO n0 x1 x2 M
theorem tfX8_readWord (n0 : Nat) (hO : OKc p (rmL 2) s m args meth c LX D cy ad cX8_readWord RX8 3 2 none) (M : Mem) : BL p l e (rmL 2) s m args below meth c LX D cy ad 3 (QV LX D cy ad) 0 [(0, .ref (ad 3))] [] M (fX8_readWord n0 M) := by
  unfold fX8_readWord
  refine b_iconst hO dX8_readWord_0 ic_i_0 ?_
  refine b_istore_n hO dX8_readWord_1 rfl (by decide) (lv' := [(1, .int _), (0, .ref _)]) rfl ?_
  refine b_aload_n hO dX8_readWord_2 1 rfl rfl ?_
  refine b_get hO flX8_19 kLX_3 (v := .int (gI _ 387)) rfl dX8_readWord_3 ?_
  refine b_topI (fun x2_6 => ?_)
  refine b_istore_n hO dX8_readWord_6 rfl (by decide) (lv' := [(2, .int _), (1, .int _), (0, .ref _)]) rfl ?_
  refine b_sub [2, 1, 0] rfl ?_
  exact tfX8_readWord_7 n0 hO _ _ _
theorem ctX8_readWord (n0 : Nat) (hI : Inj LX ad) (M : Mem) : CT l LX D cy ad yX8_readWord cX8_readWord 3 none 2 (QV LX D cy ad) [.ref (ad 3)] M (fX8_readWord n0 M) :=
  CT.mk LXok hI (by decide) (Nat.le_of_ble_eq_true rfl) (fun hO => tfX8_readWord n0 hO M)
/-! X8_isDigit -/
def fX8_isDigit (n0 : Nat) (x0 : Int32) (M : Mem) : Option (Int32 × Mem) :=
  if x0 < (48 : Int32) then
    some ((0 : Int32), M)
  else
    if (57 : Int32) < x0 then
      some ((0 : Int32), M)
    else
      some ((1 : Int32), M)
theorem tfX8_isDigit (n0 : Nat) (hO : OKc p (rmL 1) s m args meth c LX D cy ad cX8_isDigit RX8 1 1 (some .boolean)) (x0 : Int32) (M : Mem) : BL p l e (rmL 1) s m args below meth c LX D cy ad 1 (QI LX D cy ad) 0 [(0, .int x0)] [] M (fX8_isDigit n0 x0 M) := by
  unfold fX8_isDigit
  refine b_iload_n hO dX8_isDigit_0 0 rfl rfl ?_
  refine b_bipush hO dX8_isDigit_1 ic_b_48 ?_
  refine b_icmp_lt hO dX8_isDigit_3 (tgt := 16) (by decide) ?_ ?_
  · refine b_iconst hO dX8_isDigit_16 ic_i_0 ?_
    exact b_zretc hO (Or.inl rfl) dX8_isDigit_17
  · refine b_iload_n hO dX8_isDigit_6 0 rfl rfl ?_
    refine b_bipush hO dX8_isDigit_7 ic_b_57 ?_
    refine b_icmp_gt hO dX8_isDigit_9 (tgt := 16) (by decide) ?_ ?_
    · refine b_iconst hO dX8_isDigit_16 ic_i_0 ?_
      exact b_zretc hO (Or.inl rfl) dX8_isDigit_17
    · refine b_iconst hO dX8_isDigit_12 ic_i_1 ?_
      refine b_goto hO dX8_isDigit_13 (tgt := 17) (by decide) ?_
      exact b_zretc hO (Or.inr rfl) dX8_isDigit_17
theorem ctX8_isDigit (n0 : Nat) (hI : Inj LX ad) (x0 : Int32) (M : Mem) : CT l LX D cy ad yX8_isDigit cX8_isDigit 1 (some .boolean) 1 (QI LX D cy ad) [.int x0] M (fX8_isDigit n0 x0 M) :=
  CT.mk LXok hI (by decide) (Nat.le_of_ble_eq_true rfl) (fun hO => tfX8_isDigit n0 hO x0 M)
/-! X8_readNumber -/
def fX8_readNumber_59 (n0 : Nat) (k7 : Int32 → Int32 → Mem → Option (Mem)) (x1 : Int32) (x2 : Int32) (M : Mem) : Option (Mem) :=
  bnd (sI M 390 (x2 + (1 : Int32))) fun M63 =>
  k7 x1 (x2 + (1 : Int32)) M63
def fX8_readNumber_72 (n0 : Nat) (x1 : Int32) (M : Mem) : Option (Mem) :=
  bnd (sI M 389 x1) fun M74 =>
  bnd (sI M74 386 (256 : Int32)) fun M81 =>
  if ((gI M81 390) - (gI M81 387)) ≤ (4 : Int32) then
    some M81
  else
    bnd (sI M81 386 (258 : Int32)) fun M101 =>
    some (sI M101 388 ((gI M101 387) + (4 : Int32)))
def bX8_readNumber_7 (n0 : Nat) (k7 : Int32 → Int32 → Mem → Option (Mem)) (x1 : Int32) (x2 : Int32) (M : Mem) : Option (Mem) :=
  if (gI M 641) ≤ x2 then
    fX8_readNumber_72 n0 x1 M
  else
    (fX7_at n0 x2 M).bind fun z23 =>
    (fX8_isDigit n0 z23.1 z23.2).bind fun z26 =>
    if z26.1 = 0 then
      fX8_readNumber_72 n0 x1 z26.2
    else
      if (4 : Int32) ≤ (x2 - (gI z26.2 387)) then
        fX8_readNumber_59 n0 k7 x1 x2 z26.2
      else
        (fX7_at n0 x2 z26.2).bind fun z51 =>
        bnd ((((10 : Int32) * x1) + z51.1) - (48 : Int32)) fun x1_58 =>
        fX8_readNumber_59 n0 k7 x1_58 x2 z51.2
def fX8_readNumber_7 (n0 : Nat) : Int32 → Int32 → Mem → Option (Mem) := loopN (bX8_readNumber_7 n0) (fun _ _ _ => none) n0
def fX8_readNumber (n0 : Nat) (M : Mem) : Option (Mem) :=
  bnd (gI M 387) fun x2_6 =>
  fX8_readNumber_7 n0 (0 : Int32) x2_6 M
theorem tfX8_readNumber_59 (n0 : Nat) (hO : OKc p (rmL 2) s m args meth c LX D cy ad cX8_readNumber RX8 3 2 none) (k7 : Int32 → Int32 → Mem → Option (Mem)) (hk7 : ∀ (x1 : Int32) (x2 : Int32) (M : Mem), BL p l e (rmL 2) s m args below meth c LX D cy ad 3 (QV LX D cy ad) 7 [(0, .ref (ad 3)), (1, .int x1), (2, .int x2)] [] M (k7 x1 x2 M)) (x1 : Int32) (x2 : Int32) (M : Mem) : BL p l e (rmL 2) s m args below meth c LX D cy ad 3 (QV LX D cy ad) 59 [(0, .ref (ad 3)), (1, .int x1), (2, .int x2)] [] M (fX8_readNumber_59 n0 k7 x1 x2 M) := by
  unfold fX8_readNumber_59
  refine b_aload_n hO dX8_readNumber_59 0 rfl rfl ?_
  refine b_iload_n hO dX8_readNumber_60 2 rfl rfl ?_
  refine b_iconst hO dX8_readNumber_61 ic_i_1 ?_
  refine b_iadd hO dX8_readNumber_62 ?_
  refine b_putI hO flX8_28 kLX_3 rfl rfl rfl (id := 390) rfl dX8_readNumber_63 ?_
  refine b_bnd (fun M63 => ?_)
  refine b_iinc hO dX8_readNumber_66 2 rfl ic_i_1 (by decide) (lv' := [(2, .int _), (0, .ref _), (1, .int _)]) rfl ?_
  refine b_goto hO dX8_readNumber_69 (tgt := 7) (by decide) ?_
  refine b_sub [1, 2, 0] rfl ?_
  exact hk7 _ _ _
theorem tfX8_readNumber_72 (n0 : Nat) (hO : OKc p (rmL 2) s m args meth c LX D cy ad cX8_readNumber RX8 3 2 none) (x1 : Int32) (M : Mem) : BL p l e (rmL 2) s m args below meth c LX D cy ad 3 (QV LX D cy ad) 72 [(0, .ref (ad 3)), (1, .int x1)] [] M (fX8_readNumber_72 n0 x1 M) := by
  unfold fX8_readNumber_72
  refine b_aload_n hO dX8_readNumber_72 0 rfl rfl ?_
  refine b_iload_n hO dX8_readNumber_73 1 rfl rfl ?_
  refine b_putI hO flX8_25 kLX_3 rfl rfl rfl (id := 389) rfl dX8_readNumber_74 ?_
  refine b_bnd (fun M74 => ?_)
  refine b_aload_n hO dX8_readNumber_77 0 rfl rfl ?_
  refine b_sipush hO dX8_readNumber_78 ic_s_256 ?_
  refine b_putI hO flX8_15 kLX_3 rfl rfl rfl (id := 386) rfl dX8_readNumber_81 ?_
  refine b_bnd (fun M81 => ?_)
  refine b_aload_n hO dX8_readNumber_84 0 rfl rfl ?_
  refine b_get hO flX8_28 kLX_3 (v := .int (gI _ 390)) rfl dX8_readNumber_85 ?_
  refine b_aload_n hO dX8_readNumber_88 0 rfl rfl ?_
  refine b_get hO flX8_19 kLX_3 (v := .int (gI _ 387)) rfl dX8_readNumber_89 ?_
  refine b_isub hO dX8_readNumber_92 ?_
  refine b_iconst hO dX8_readNumber_93 ic_i_4 ?_
  refine b_icmp_le hO dX8_readNumber_94 (tgt := 114) (by decide) ?_ ?_
  · exact b_vret hO dX8_readNumber_114
  · refine b_aload_n hO dX8_readNumber_97 0 rfl rfl ?_
    refine b_sipush hO dX8_readNumber_98 ic_s_258 ?_
    refine b_putI hO flX8_15 kLX_3 rfl rfl rfl (id := 386) rfl dX8_readNumber_101 ?_
    refine b_bnd (fun M101 => ?_)
    refine b_aload_n hO dX8_readNumber_104 0 rfl rfl ?_
    refine b_aload_n hO dX8_readNumber_105 0 rfl rfl ?_
    refine b_get hO flX8_19 kLX_3 (v := .int (gI _ 387)) rfl dX8_readNumber_106 ?_
    refine b_iconst hO dX8_readNumber_109 ic_i_4 ?_
    refine b_iadd hO dX8_readNumber_110 ?_
    refine b_putI hO flX8_22 kLX_3 rfl rfl rfl (id := 388) rfl dX8_readNumber_111 ?_
    exact b_vret hO dX8_readNumber_114
theorem tbX8_readNumber_7 (n0 : Nat) (hO : OKc p (rmL 2) s m args meth c LX D cy ad cX8_readNumber RX8 3 2 none) (k7 : Int32 → Int32 → Mem → Option (Mem)) (hk7 : ∀ (x1 : Int32) (x2 : Int32) (M : Mem), BL p l e (rmL 2) s m args below meth c LX D cy ad 3 (QV LX D cy ad) 7 [(0, .ref (ad 3)), (1, .int x1), (2, .int x2)] [] M (k7 x1 x2 M)) (x1 : Int32) (x2 : Int32) (M : Mem) : BL p l e (rmL 2) s m args below meth c LX D cy ad 3 (QV LX D cy ad) 7 [(0, .ref (ad 3)), (1, .int x1), (2, .int x2)] [] M (bX8_readNumber_7 n0 k7 x1 x2 M) := by
  unfold bX8_readNumber_7
  refine b_iload_n hO dX8_readNumber_7 2 rfl rfl ?_
  refine b_aload_n hO dX8_readNumber_8 0 rfl rfl ?_
  refine b_get hO flX8_37 kLX_3 (v := .ref (ad 5)) rfl dX8_readNumber_9 ?_
  refine b_get hO flX8_93 kLX_5 (v := .int (gI _ 641)) rfl dX8_readNumber_12 ?_
  refine b_icmp_ge hO dX8_readNumber_15 (tgt := 72) (by decide) ?_ ?_
  · refine b_sub [0, 1] rfl ?_
    exact tfX8_readNumber_72 n0 hO _ _
  · refine b_aload_n hO dX8_readNumber_18 0 rfl rfl ?_
    refine b_get hO flX8_37 kLX_3 (v := .ref (ad 5)) rfl dX8_readNumber_19 ?_
    refine b_iload_n hO dX8_readNumber_22 2 rfl rfl ?_
    refine b_callVI hO mdX7_at mvX7_at w711 (ci := 7) rfl rfl (by decide) kLX_5 (As := [.int _]) (st := []) (ctX7_at n0 hO.2.2.2.2.2.2.1 _ _) (Nat.le_of_ble_eq_true rfl) rfl rfl (Nat.le_of_ble_eq_true rfl) dX8_readNumber_23 (fun z23 => ?_)
    refine b_callSI hO mdX8_isDigit w727 w726 (As := [.int _]) (st := []) (ctX8_isDigit n0 hO.2.2.2.2.2.2.1 _ _) (Nat.le_of_ble_eq_true rfl) rfl rfl (Nat.le_of_ble_eq_true rfl) dX8_readNumber_26 (fun z26 => ?_)
    refine b_if_eq hO dX8_readNumber_29 (tgt := 72) (by decide) ?_ ?_
    · refine b_sub [0, 1] rfl ?_
      exact tfX8_readNumber_72 n0 hO _ _
    · refine b_iload_n hO dX8_readNumber_32 2 rfl rfl ?_
      refine b_aload_n hO dX8_readNumber_33 0 rfl rfl ?_
      refine b_get hO flX8_19 kLX_3 (v := .int (gI _ 387)) rfl dX8_readNumber_34 ?_
      refine b_isub hO dX8_readNumber_37 ?_
      refine b_iconst hO dX8_readNumber_38 ic_i_4 ?_
      refine b_icmp_ge hO dX8_readNumber_39 (tgt := 59) (by decide) ?_ ?_
      · exact tfX8_readNumber_59 n0 hO k7 hk7 _ _ _
      · refine b_bipush hO dX8_readNumber_42 ic_b_10 ?_
        refine b_iload_n hO dX8_readNumber_44 1 rfl rfl ?_
        refine b_imul hO dX8_readNumber_45 ?_
        refine b_aload_n hO dX8_readNumber_46 0 rfl rfl ?_
        refine b_get hO flX8_37 kLX_3 (v := .ref (ad 5)) rfl dX8_readNumber_47 ?_
        refine b_iload_n hO dX8_readNumber_50 2 rfl rfl ?_
        refine b_callVI hO mdX7_at mvX7_at w711 (ci := 7) rfl rfl (by decide) kLX_5 (As := [.int _]) (st := [.int _]) (ctX7_at n0 hO.2.2.2.2.2.2.1 _ _) (Nat.le_of_ble_eq_true rfl) rfl rfl (Nat.le_of_ble_eq_true rfl) dX8_readNumber_51 (fun z51 => ?_)
        refine b_iadd hO dX8_readNumber_54 ?_
        refine b_bipush hO dX8_readNumber_55 ic_b_48 ?_
        refine b_isub hO dX8_readNumber_57 ?_
        refine b_topI (fun x1_58 => ?_)
        refine b_istore_n hO dX8_readNumber_58 rfl (by decide) (lv' := [(1, .int _), (0, .ref _), (2, .int _)]) rfl ?_
        refine b_sub [1, 0, 2] rfl ?_
        exact tfX8_readNumber_59 n0 hO k7 hk7 _ _ _
theorem lX8_readNumber_7 (n0 : Nat) (hO : OKc p (rmL 2) s m args meth c LX D cy ad cX8_readNumber RX8 3 2 none) : ∀ (w : Nat) (x1 : Int32) (x2 : Int32) (M : Mem), BL p l e (rmL 2) s m args below meth c LX D cy ad 3 (QV LX D cy ad) 7 [(0, .ref (ad 3)), (1, .int x1), (2, .int x2)] [] M (loopN (bX8_readNumber_7 n0) (fun _ _ _ => none) w x1 x2 M) := by
  intro w
  induction w with
  | zero =>
    intros
    exact b_none
  | succ w ih =>
    intro x1 x2 M
    exact tbX8_readNumber_7 n0 hO _ ih x1 x2 M
theorem tfX8_readNumber_7 (n0 : Nat) (hO : OKc p (rmL 2) s m args meth c LX D cy ad cX8_readNumber RX8 3 2 none) (x1 : Int32) (x2 : Int32) (M : Mem) : BL p l e (rmL 2) s m args below meth c LX D cy ad 3 (QV LX D cy ad) 7 [(0, .ref (ad 3)), (1, .int x1), (2, .int x2)] [] M (fX8_readNumber_7 n0 x1 x2 M) := lX8_readNumber_7 n0 hO n0 x1 x2 M
theorem tfX8_readNumber (n0 : Nat) (hO : OKc p (rmL 2) s m args meth c LX D cy ad cX8_readNumber RX8 3 2 none) (M : Mem) : BL p l e (rmL 2) s m args below meth c LX D cy ad 3 (QV LX D cy ad) 0 [(0, .ref (ad 3))] [] M (fX8_readNumber n0 M) := by
  unfold fX8_readNumber
  refine b_iconst hO dX8_readNumber_0 ic_i_0 ?_
  refine b_istore_n hO dX8_readNumber_1 rfl (by decide) (lv' := [(1, .int _), (0, .ref _)]) rfl ?_
  refine b_aload_n hO dX8_readNumber_2 1 rfl rfl ?_
  refine b_get hO flX8_19 kLX_3 (v := .int (gI _ 387)) rfl dX8_readNumber_3 ?_
  refine b_topI (fun x2_6 => ?_)
  refine b_istore_n hO dX8_readNumber_6 rfl (by decide) (lv' := [(2, .int _), (1, .int _), (0, .ref _)]) rfl ?_
  refine b_sub [2, 1, 0] rfl ?_
  exact tfX8_readNumber_7 n0 hO _ _ _
theorem ctX8_readNumber (n0 : Nat) (hI : Inj LX ad) (M : Mem) : CT l LX D cy ad yX8_readNumber cX8_readNumber 3 none 2 (QV LX D cy ad) [.ref (ad 3)] M (fX8_readNumber n0 M) :=
  CT.mk LXok hI (by decide) (Nat.le_of_ble_eq_true rfl) (fun hO => tfX8_readNumber n0 hO M)
/-! X8_advance -/
def fX8_advance_100 (n0 : Nat) (x1 : Int32) (x2 : Int32) (M : Mem) : Option (Mem) :=
  if x1 = 0 then
    some M
  else
    if (gI M 387) = x2 then
      (fX8_isWordOrNumber n0 M).bind fun z113 =>
      if z113.1 = 0 then
        some z113.2
      else
        bnd (sI z113.2 386 (258 : Int32)) fun M123 =>
        some (sI M123 388 (gI M123 387))
    else
      some M
def fX8_advance (n0 : Nat) (M : Mem) : Option (Mem) :=
  (fX8_isWordOrNumber n0 M).bind fun z1 =>
  bnd (gI z1.2 390) fun x2_9 =>
  (fX8_skipBlanks n0 z1.2).bind fun z11 =>
  bnd (sI z11 387 (gI z11 390)) fun M19 =>
  bnd (sI M19 388 (gI M19 390)) fun M27 =>
  (fX7_at n0 (gI M27 390) M27).bind fun z38 =>
  (fX8_isLetter n0 z38.1 z38.2).bind fun z43 =>
  if z43.1 = 0 then
    (fX8_isDigit n0 z38.1 z43.2).bind fun z57 =>
    if z57.1 = 0 then
      if z38.1 = (-1 : Int32) then
        fX8_advance_100 n0 z1.1 x2_9 (sI z57.2 386 (259 : Int32))
      else
        bnd (sI z57.2 386 z38.1) fun M87 =>
        fX8_advance_100 n0 z1.1 x2_9 (sI M87 390 ((gI M87 390) + (1 : Int32)))
    else
      (fX8_readNumber n0 z57.2).bind fun z64 =>
      fX8_advance_100 n0 z1.1 x2_9 z64
  else
    (fX8_readWord n0 z43.2).bind fun z50 =>
    fX8_advance_100 n0 z1.1 x2_9 z50
theorem tfX8_advance_100 (n0 : Nat) (hO : OKc p (rmL 3) s m args meth c LX D cy ad cX8_advance RX8 4 3 none) (x1 : Int32) (x2 : Int32) (M : Mem) : BL p l e (rmL 3) s m args below meth c LX D cy ad 4 (QV LX D cy ad) 100 [(0, .ref (ad 3)), (1, .int x1), (2, .int x2)] [] M (fX8_advance_100 n0 x1 x2 M) := by
  unfold fX8_advance_100
  refine b_iload_n hO dX8_advance_100 1 rfl rfl ?_
  refine b_if_eq hO dX8_advance_101 (tgt := 134) (by decide) ?_ ?_
  · exact b_vret hO dX8_advance_134
  · refine b_aload_n hO dX8_advance_104 0 rfl rfl ?_
    refine b_get hO flX8_19 kLX_3 (v := .int (gI _ 387)) rfl dX8_advance_105 ?_
    refine b_iload_n hO dX8_advance_108 2 rfl rfl ?_
    refine b_icmp_ne hO dX8_advance_109 (tgt := 134) (by decide) ?_ ?_
    · exact b_vret hO dX8_advance_134
    · refine b_aload_n hO dX8_advance_112 0 rfl rfl ?_
      refine b_callVI hO mdX8_isWordOrNumber mvX8_isWordOrNumber w703 (ci := 8) rfl rfl (by decide) kLX_3 (As := []) (st := []) (ctX8_isWordOrNumber n0 hO.2.2.2.2.2.2.1 _) (Nat.le_of_ble_eq_true rfl) rfl rfl (Nat.le_of_ble_eq_true rfl) dX8_advance_113 (fun z113 => ?_)
      refine b_if_eq hO dX8_advance_116 (tgt := 134) (by decide) ?_ ?_
      · exact b_vret hO dX8_advance_134
      · refine b_aload_n hO dX8_advance_119 0 rfl rfl ?_
        refine b_sipush hO dX8_advance_120 ic_s_258 ?_
        refine b_putI hO flX8_15 kLX_3 rfl rfl rfl (id := 386) rfl dX8_advance_123 ?_
        refine b_bnd (fun M123 => ?_)
        refine b_aload_n hO dX8_advance_126 0 rfl rfl ?_
        refine b_aload_n hO dX8_advance_127 0 rfl rfl ?_
        refine b_get hO flX8_19 kLX_3 (v := .int (gI _ 387)) rfl dX8_advance_128 ?_
        refine b_putI hO flX8_22 kLX_3 rfl rfl rfl (id := 388) rfl dX8_advance_131 ?_
        exact b_vret hO dX8_advance_134
theorem tfX8_advance (n0 : Nat) (hO : OKc p (rmL 3) s m args meth c LX D cy ad cX8_advance RX8 4 3 none) (M : Mem) : BL p l e (rmL 3) s m args below meth c LX D cy ad 4 (QV LX D cy ad) 0 [(0, .ref (ad 3))] [] M (fX8_advance n0 M) := by
  unfold fX8_advance
  refine b_aload_n hO dX8_advance_0 0 rfl rfl ?_
  refine b_callVI hO mdX8_isWordOrNumber mvX8_isWordOrNumber w703 (ci := 8) rfl rfl (by decide) kLX_3 (As := []) (st := []) (ctX8_isWordOrNumber n0 hO.2.2.2.2.2.2.1 _) (Nat.le_of_ble_eq_true rfl) rfl rfl (Nat.le_of_ble_eq_true rfl) dX8_advance_1 (fun z1 => ?_)
  refine b_istore_n hO dX8_advance_4 rfl (by decide) (lv' := [(1, .int _), (0, .ref _)]) rfl ?_
  refine b_aload_n hO dX8_advance_5 1 rfl rfl ?_
  refine b_get hO flX8_28 kLX_3 (v := .int (gI _ 390)) rfl dX8_advance_6 ?_
  refine b_topI (fun x2_9 => ?_)
  refine b_istore_n hO dX8_advance_9 rfl (by decide) (lv' := [(2, .int _), (1, .int _), (0, .ref _)]) rfl ?_
  refine b_aload_n hO dX8_advance_10 2 rfl rfl ?_
  refine b_callVV hO mdX8_skipBlanks mvX8_skipBlanks w707 (ci := 8) rfl rfl (by decide) kLX_3 (As := []) (st := []) (ctX8_skipBlanks n0 hO.2.2.2.2.2.2.1 _) (Nat.le_of_ble_eq_true rfl) rfl rfl (Nat.le_of_ble_eq_true rfl) dX8_advance_11 (fun z11 => ?_)
  refine b_aload_n hO dX8_advance_14 2 rfl rfl ?_
  refine b_aload_n hO dX8_advance_15 2 rfl rfl ?_
  refine b_get hO flX8_28 kLX_3 (v := .int (gI _ 390)) rfl dX8_advance_16 ?_
  refine b_putI hO flX8_19 kLX_3 rfl rfl rfl (id := 387) rfl dX8_advance_19 ?_
  refine b_bnd (fun M19 => ?_)
  refine b_aload_n hO dX8_advance_22 2 rfl rfl ?_
  refine b_aload_n hO dX8_advance_23 2 rfl rfl ?_
  refine b_get hO flX8_28 kLX_3 (v := .int (gI _ 390)) rfl dX8_advance_24 ?_
  refine b_putI hO flX8_22 kLX_3 rfl rfl rfl (id := 388) rfl dX8_advance_27 ?_
  refine b_bnd (fun M27 => ?_)
  refine b_aload_n hO dX8_advance_30 2 rfl rfl ?_
  refine b_get hO flX8_37 kLX_3 (v := .ref (ad 5)) rfl dX8_advance_31 ?_
  refine b_aload_n hO dX8_advance_34 2 rfl rfl ?_
  refine b_get hO flX8_28 kLX_3 (v := .int (gI _ 390)) rfl dX8_advance_35 ?_
  refine b_callVI hO mdX7_at mvX7_at w711 (ci := 7) rfl rfl (by decide) kLX_5 (As := [.int _]) (st := []) (ctX7_at n0 hO.2.2.2.2.2.2.1 _ _) (Nat.le_of_ble_eq_true rfl) rfl rfl (Nat.le_of_ble_eq_true rfl) dX8_advance_38 (fun z38 => ?_)
  refine b_istore_n hO dX8_advance_41 rfl (by decide) (lv' := [(3, .int _), (2, .int _), (1, .int _), (0, .ref _)]) rfl ?_
  refine b_iload_n hO dX8_advance_42 0 rfl rfl ?_
  refine b_callSI hO mdX8_isLetter w716 w715 (As := [.int _]) (st := []) (ctX8_isLetter n0 hO.2.2.2.2.2.2.1 _ _) (Nat.le_of_ble_eq_true rfl) rfl rfl (Nat.le_of_ble_eq_true rfl) dX8_advance_43 (fun z43 => ?_)
  refine b_if_eq hO dX8_advance_46 (tgt := 56) (by decide) ?_ ?_
  · refine b_iload_n hO dX8_advance_56 0 rfl rfl ?_
    refine b_callSI hO mdX8_isDigit w727 w726 (As := [.int _]) (st := []) (ctX8_isDigit n0 hO.2.2.2.2.2.2.1 _ _) (Nat.le_of_ble_eq_true rfl) rfl rfl (Nat.le_of_ble_eq_true rfl) dX8_advance_57 (fun z57 => ?_)
    refine b_if_eq hO dX8_advance_60 (tgt := 70) (by decide) ?_ ?_
    · refine b_iload_n hO dX8_advance_70 0 rfl rfl ?_
      refine b_iconst hO dX8_advance_71 ic_i_m1 ?_
      refine b_icmp_ne hO dX8_advance_72 (tgt := 85) (by decide) ?_ ?_
      · refine b_aload_n hO dX8_advance_85 3 rfl rfl ?_
        refine b_iload_n hO dX8_advance_86 0 rfl rfl ?_
        refine b_putI hO flX8_15 kLX_3 rfl rfl rfl (id := 386) rfl dX8_advance_87 ?_
        refine b_bnd (fun M87 => ?_)
        refine b_aload_n hO dX8_advance_90 3 rfl rfl ?_
        refine b_dup hO dX8_advance_91 rfl ?_
        refine b_get hO flX8_28 kLX_3 (v := .int (gI _ 390)) rfl dX8_advance_92 ?_
        refine b_iconst hO dX8_advance_95 ic_i_1 ?_
        refine b_iadd hO dX8_advance_96 ?_
        refine b_putI hO flX8_28 kLX_3 rfl rfl rfl (id := 390) rfl dX8_advance_97 ?_
        refine b_sub [3, 2, 1] rfl ?_
        exact tfX8_advance_100 n0 hO _ _ _
      · refine b_aload_n hO dX8_advance_75 3 rfl rfl ?_
        refine b_sipush hO dX8_advance_76 ic_s_259 ?_
        refine b_putI hO flX8_15 kLX_3 rfl rfl rfl (id := 386) rfl dX8_advance_79 ?_
        refine b_goto hO dX8_advance_82 (tgt := 100) (by decide) ?_
        refine b_sub [3, 2, 1] rfl ?_
        exact tfX8_advance_100 n0 hO _ _ _
    · refine b_aload_n hO dX8_advance_63 3 rfl rfl ?_
      refine b_callVV hO mdX8_readNumber mvX8_readNumber w729 (ci := 8) rfl rfl (by decide) kLX_3 (As := []) (st := []) (ctX8_readNumber n0 hO.2.2.2.2.2.2.1 _) (Nat.le_of_ble_eq_true rfl) rfl rfl (Nat.le_of_ble_eq_true rfl) dX8_advance_64 (fun z64 => ?_)
      refine b_goto hO dX8_advance_67 (tgt := 100) (by decide) ?_
      refine b_sub [3, 2, 1] rfl ?_
      exact tfX8_advance_100 n0 hO _ _ _
  · refine b_aload_n hO dX8_advance_49 3 rfl rfl ?_
    refine b_callVV hO mdX8_readWord mvX8_readWord w718 (ci := 8) rfl rfl (by decide) kLX_3 (As := []) (st := []) (ctX8_readWord n0 hO.2.2.2.2.2.2.1 _) (Nat.le_of_ble_eq_true rfl) rfl rfl (Nat.le_of_ble_eq_true rfl) dX8_advance_50 (fun z50 => ?_)
    refine b_goto hO dX8_advance_53 (tgt := 100) (by decide) ?_
    refine b_sub [3, 2, 1] rfl ?_
    exact tfX8_advance_100 n0 hO _ _ _
theorem ctX8_advance (n0 : Nat) (hI : Inj LX ad) (M : Mem) : CT l LX D cy ad yX8_advance cX8_advance 4 none 3 (QV LX D cy ad) [.ref (ad 3)] M (fX8_advance n0 M) :=
  CT.mk LXok hI (by decide) (Nat.le_of_ble_eq_true rfl) (fun hO => tfX8_advance n0 hO M)
/-! X8_begin -/
def fX8_begin (n0 : Nat) (M : Mem) : Option (Mem) :=
  bnd (sI M 391 (0 : Int32)) fun M2 =>
  bnd (sI M2 392 (-1 : Int32)) fun M7 =>
  bnd (sI M7 386 (259 : Int32)) fun M14 =>
  bnd (sI M14 390 (0 : Int32)) fun M19 =>
  (fX8_advance n0 M19).bind fun z23 =>
  some z23
theorem tfX8_begin (n0 : Nat) (hO : OKc p (rmL 4) s m args meth c LX D cy ad cX8_begin RX8 1 4 none) (M : Mem) : BL p l e (rmL 4) s m args below meth c LX D cy ad 1 (QV LX D cy ad) 0 [(0, .ref (ad 3))] [] M (fX8_begin n0 M) := by
  unfold fX8_begin
  refine b_aload_n hO dX8_begin_0 0 rfl rfl ?_
  refine b_iconst hO dX8_begin_1 ic_i_0 ?_
  refine b_putI hO flX8_31 kLX_3 rfl rfl rfl (id := 391) rfl dX8_begin_2 ?_
  refine b_bnd (fun M2 => ?_)
  refine b_aload_n hO dX8_begin_5 0 rfl rfl ?_
  refine b_iconst hO dX8_begin_6 ic_i_m1 ?_
  refine b_putI hO flX8_34 kLX_3 rfl rfl rfl (id := 392) rfl dX8_begin_7 ?_
  refine b_bnd (fun M7 => ?_)
  refine b_aload_n hO dX8_begin_10 0 rfl rfl ?_
  refine b_sipush hO dX8_begin_11 ic_s_259 ?_
  refine b_putI hO flX8_15 kLX_3 rfl rfl rfl (id := 386) rfl dX8_begin_14 ?_
  refine b_bnd (fun M14 => ?_)
  refine b_aload_n hO dX8_begin_17 0 rfl rfl ?_
  refine b_iconst hO dX8_begin_18 ic_i_0 ?_
  refine b_putI hO flX8_28 kLX_3 rfl rfl rfl (id := 390) rfl dX8_begin_19 ?_
  refine b_bnd (fun M19 => ?_)
  refine b_aload_n hO dX8_begin_22 0 rfl rfl ?_
  refine b_callVV hO mdX8_advance mvX8_advance w699 (ci := 8) rfl rfl (by decide) kLX_3 (As := []) (st := []) (ctX8_advance n0 hO.2.2.2.2.2.2.1 _) (Nat.le_of_ble_eq_true rfl) rfl rfl (Nat.le_of_ble_eq_true rfl) dX8_begin_23 (fun z23 => ?_)
  exact b_vret hO dX8_begin_26
theorem ctX8_begin (n0 : Nat) (hI : Inj LX ad) (M : Mem) : CT l LX D cy ad yX8_begin cX8_begin 1 none 4 (QV LX D cy ad) [.ref (ad 3)] M (fX8_begin n0 M) :=
  CT.mk LXok hI (by decide) (Nat.le_of_ble_eq_true rfl) (fun hO => tfX8_begin n0 hO M)
/-! X8_fail -/
def fX8_fail (n0 : Nat) (x1 : Int32) (x2 : Int32) (M : Mem) : Option (Int32 × Mem) :=
  bnd (sI M 391 x1) fun M2 =>
  bnd (sI M2 392 x2) fun M7 =>
  some ((0 : Int32), M7)
theorem tfX8_fail (n0 : Nat) (hO : OKc p (rmL 1) s m args meth c LX D cy ad cX8_fail RX8 3 1 (some .boolean)) (x1 : Int32) (x2 : Int32) (M : Mem) : BL p l e (rmL 1) s m args below meth c LX D cy ad 3 (QI LX D cy ad) 0 [(0, .ref (ad 3)), (1, .int x1), (2, .int x2)] [] M (fX8_fail n0 x1 x2 M) := by
  unfold fX8_fail
  refine b_aload_n hO dX8_fail_0 0 rfl rfl ?_
  refine b_iload_n hO dX8_fail_1 1 rfl rfl ?_
  refine b_putI hO flX8_31 kLX_3 rfl rfl rfl (id := 391) rfl dX8_fail_2 ?_
  refine b_bnd (fun M2 => ?_)
  refine b_aload_n hO dX8_fail_5 0 rfl rfl ?_
  refine b_iload_n hO dX8_fail_6 2 rfl rfl ?_
  refine b_putI hO flX8_34 kLX_3 rfl rfl rfl (id := 392) rfl dX8_fail_7 ?_
  refine b_bnd (fun M7 => ?_)
  refine b_iconst hO dX8_fail_10 ic_i_0 ?_
  exact b_zretc hO (Or.inl rfl) dX8_fail_11
theorem ctX8_fail (n0 : Nat) (hI : Inj LX ad) (x1 : Int32) (x2 : Int32) (M : Mem) : CT l LX D cy ad yX8_fail cX8_fail 3 (some .boolean) 1 (QI LX D cy ad) [.ref (ad 3), .int x1, .int x2] M (fX8_fail n0 x1 x2 M) :=
  CT.mk LXok hI (by decide) (Nat.le_of_ble_eq_true rfl) (fun hO => tfX8_fail n0 hO x1 x2 M)
/-! X8_failHere -/
def fX8_failHere (n0 : Nat) (M : Mem) : Option (Int32 × Mem) :=
  (fX8_fail n0 (1 : Int32) (gI M 388) M).bind fun z6 =>
  if z6.1 = 0 ∨ z6.1 = 1 then some (z6.1, z6.2) else none
theorem tfX8_failHere (n0 : Nat) (hO : OKc p (rmL 2) s m args meth c LX D cy ad cX8_failHere RX8 1 2 (some .boolean)) (M : Mem) : BL p l e (rmL 2) s m args below meth c LX D cy ad 1 (QI LX D cy ad) 0 [(0, .ref (ad 3))] [] M (fX8_failHere n0 M) := by
  unfold fX8_failHere
  refine b_aload_n hO dX8_failHere_0 0 rfl rfl ?_
  refine b_iconst hO dX8_failHere_1 ic_i_1 ?_
  refine b_aload_n hO dX8_failHere_2 0 rfl rfl ?_
  refine b_get hO flX8_22 kLX_3 (v := .int (gI _ 388)) rfl dX8_failHere_3 ?_
  refine b_callVI hO mdX8_fail mvX8_fail w758 (ci := 8) rfl rfl (by decide) kLX_3 (As := [.int _, .int _]) (st := []) (ctX8_fail n0 hO.2.2.2.2.2.2.1 _ _ _) (Nat.le_of_ble_eq_true rfl) rfl rfl (Nat.le_of_ble_eq_true rfl) dX8_failHere_6 (fun z6 => ?_)
  exact b_zret hO dX8_failHere_9
theorem ctX8_failHere (n0 : Nat) (hI : Inj LX ad) (M : Mem) : CT l LX D cy ad yX8_failHere cX8_failHere 1 (some .boolean) 2 (QI LX D cy ad) [.ref (ad 3)] M (fX8_failHere n0 M) :=
  CT.mk LXok hI (by decide) (Nat.le_of_ble_eq_true rfl) (fun hO => tfX8_failHere n0 hO M)
/-! X8_skip -/
def fX8_skip (n0 : Nat) (x1 : Int32) (M : Mem) : Option (Int32 × Mem) :=
  if (gI M 386) = x1 then
    (fX8_advance n0 M).bind fun z14 =>
    some ((1 : Int32), z14)
  else
    (fX8_failHere n0 M).bind fun z9 =>
    if z9.1 = 0 ∨ z9.1 = 1 then some (z9.1, z9.2) else none
theorem tfX8_skip (n0 : Nat) (hO : OKc p (rmL 4) s m args meth c LX D cy ad cX8_skip RX8 2 4 (some .boolean)) (x1 : Int32) (M : Mem) : BL p l e (rmL 4) s m args below meth c LX D cy ad 2 (QI LX D cy ad) 0 [(0, .ref (ad 3)), (1, .int x1)] [] M (fX8_skip n0 x1 M) := by
  unfold fX8_skip
  refine b_aload_n hO dX8_skip_0 0 rfl rfl ?_
  refine b_get hO flX8_15 kLX_3 (v := .int (gI _ 386)) rfl dX8_skip_1 ?_
  refine b_iload_n hO dX8_skip_4 1 rfl rfl ?_
  refine b_icmp_eq hO dX8_skip_5 (tgt := 13) (by decide) ?_ ?_
  · refine b_aload_n hO dX8_skip_13 0 rfl rfl ?_
    refine b_callVV hO mdX8_advance mvX8_advance w699 (ci := 8) rfl rfl (by decide) kLX_3 (As := []) (st := []) (ctX8_advance n0 hO.2.2.2.2.2.2.1 _) (Nat.le_of_ble_eq_true rfl) rfl rfl (Nat.le_of_ble_eq_true rfl) dX8_skip_14 (fun z14 => ?_)
    refine b_iconst hO dX8_skip_17 ic_i_1 ?_
    exact b_zretc hO (Or.inr rfl) dX8_skip_18
  · refine b_aload_n hO dX8_skip_8 0 rfl rfl ?_
    refine b_callVI hO mdX8_failHere mvX8_failHere w778 (ci := 8) rfl rfl (by decide) kLX_3 (As := []) (st := []) (ctX8_failHere n0 hO.2.2.2.2.2.2.1 _) (Nat.le_of_ble_eq_true rfl) rfl rfl (Nat.le_of_ble_eq_true rfl) dX8_skip_9 (fun z9 => ?_)
    exact b_zret hO dX8_skip_12
theorem ctX8_skip (n0 : Nat) (hI : Inj LX ad) (x1 : Int32) (M : Mem) : CT l LX D cy ad yX8_skip cX8_skip 2 (some .boolean) 4 (QI LX D cy ad) [.ref (ad 3), .int x1] M (fX8_skip n0 x1 M) :=
  CT.mk LXok hI (by decide) (Nat.le_of_ble_eq_true rfl) (fun hO => tfX8_skip n0 hO x1 M)
end
