section
section
variable {p : Program} {l : Launch} {e : Env} {s : State} {m : MethodId} {args : Array Value} {below : List Frame} {meth : Method} {c : Code} {D : va_G} {cy : Nat → ClassId} {ad : Nat → Nat} {dd : Nat}

/-! X8_letterOf -/
def bX8_letterOf_4 (n0 : Nat) (k4 : Int32 → Int32 → Int32 → Mem → Option (Int32 × Mem)) (x1 : Int32) (x2 : Int32) (x3 : Int32) (M : Mem) : Option (Int32 × Mem) :=
  if x3 ≤ x1 then
    if (27 : Int32) = 0 then none else
    some ((rem32 x2 (27 : Int32)), M)
  else
    if (27 : Int32) = 0 then none else
    bnd (x2 / (27 : Int32)) fun x2_13 =>
    k4 x1 x2_13 (x3 + (-1 : Int32)) M
def fX8_letterOf_4 (n0 : Nat) : Int32 → Int32 → Int32 → Mem → Option (Int32 × Mem) := loopN (bX8_letterOf_4 n0) (fun _ _ _ _ => none) n0
def fX8_letterOf (n0 : Nat) (x0 : Int32) (x1 : Int32) (M : Mem) : Option (Int32 × Mem) :=
  fX8_letterOf_4 n0 x1 x0 (5 : Int32) M
theorem tbX8_letterOf_4 (n0 : Nat) (hO : OKc p (rmL 1) s m args meth c LX D cy ad cX8_letterOf RX8 4 1 (some .int)) (k4 : Int32 → Int32 → Int32 → Mem → Option (Int32 × Mem)) (hk4 : ∀ (x1 : Int32) (x2 : Int32) (x3 : Int32) (M : Mem), BL p l e (rmL 1) s m args below meth c LX D cy ad 4 (QI LX D cy ad) 4 [(1, .int x1), (2, .int x2), (3, .int x3)] [] M (k4 x1 x2 x3 M)) (x1 : Int32) (x2 : Int32) (x3 : Int32) (M : Mem) : BL p l e (rmL 1) s m args below meth c LX D cy ad 4 (QI LX D cy ad) 4 [(1, .int x1), (2, .int x2), (3, .int x3)] [] M (bX8_letterOf_4 n0 k4 x1 x2 x3 M) := by
  unfold bX8_letterOf_4
  refine b_iload_n hO dX8_letterOf_4 2 rfl rfl ?_
  refine b_iload_n hO dX8_letterOf_5 0 rfl rfl ?_
  refine b_icmp_le hO dX8_letterOf_6 (tgt := 20) (by decide) ?_ ?_
  · refine b_iload_n hO dX8_letterOf_20 1 rfl rfl ?_
    refine b_bipush hO dX8_letterOf_21 ic_b_27 ?_
    refine b_irem hO dX8_letterOf_23 ?_
    exact b_iret hO dX8_letterOf_24
  · refine b_iload_n hO dX8_letterOf_9 1 rfl rfl ?_
    refine b_bipush hO dX8_letterOf_10 ic_b_27 ?_
    refine b_idiv hO dX8_letterOf_12 ?_
    refine b_topI (fun x2_13 => ?_)
    refine b_istore_n hO dX8_letterOf_13 rfl (by decide) (lv' := [(2, .int _), (1, .int _), (3, .int _)]) rfl ?_
    refine b_iinc hO dX8_letterOf_14 2 rfl ic_i_m1 (by decide) (lv' := [(3, .int _), (2, .int _), (1, .int _)]) rfl ?_
    refine b_goto hO dX8_letterOf_17 (tgt := 4) (by decide) ?_
    refine b_sub [2, 1, 0] rfl ?_
    exact hk4 _ _ _ _
theorem lX8_letterOf_4 (n0 : Nat) (hO : OKc p (rmL 1) s m args meth c LX D cy ad cX8_letterOf RX8 4 1 (some .int)) : ∀ (w : Nat) (x1 : Int32) (x2 : Int32) (x3 : Int32) (M : Mem), BL p l e (rmL 1) s m args below meth c LX D cy ad 4 (QI LX D cy ad) 4 [(1, .int x1), (2, .int x2), (3, .int x3)] [] M (loopN (bX8_letterOf_4 n0) (fun _ _ _ _ => none) w x1 x2 x3 M) := by
  intro w
  induction w with
  | zero =>
    intros
    exact b_none
  | succ w ih =>
    intro x1 x2 x3 M
    exact tbX8_letterOf_4 n0 hO _ ih x1 x2 x3 M
theorem tfX8_letterOf_4 (n0 : Nat) (hO : OKc p (rmL 1) s m args meth c LX D cy ad cX8_letterOf RX8 4 1 (some .int)) (x1 : Int32) (x2 : Int32) (x3 : Int32) (M : Mem) : BL p l e (rmL 1) s m args below meth c LX D cy ad 4 (QI LX D cy ad) 4 [(1, .int x1), (2, .int x2), (3, .int x3)] [] M (fX8_letterOf_4 n0 x1 x2 x3 M) := lX8_letterOf_4 n0 hO n0 x1 x2 x3 M
theorem tfX8_letterOf (n0 : Nat) (hO : OKc p (rmL 1) s m args meth c LX D cy ad cX8_letterOf RX8 4 1 (some .int)) (x0 : Int32) (x1 : Int32) (M : Mem) : BL p l e (rmL 1) s m args below meth c LX D cy ad 4 (QI LX D cy ad) 0 [(0, .int x0), (1, .int x1)] [] M (fX8_letterOf n0 x0 x1 M) := by
  unfold fX8_letterOf
  refine b_iload_n hO dX8_letterOf_0 0 rfl rfl ?_
  refine b_istore_n hO dX8_letterOf_1 rfl (by decide) (lv' := [(2, .int _), (0, .int _), (1, .int _)]) rfl ?_
  refine b_iconst hO dX8_letterOf_2 ic_i_5 ?_
  refine b_istore_n hO dX8_letterOf_3 rfl (by decide) (lv' := [(3, .int _), (2, .int _), (0, .int _), (1, .int _)]) rfl ?_
  refine b_sub [3, 1, 0] rfl ?_
  exact tfX8_letterOf_4 n0 hO _ _ _ _
theorem ctX8_letterOf (n0 : Nat) (hI : Inj LX ad) (x0 : Int32) (x1 : Int32) (M : Mem) : CT l LX D cy ad yX8_letterOf cX8_letterOf 4 (some .int) 1 (QI LX D cy ad) [.int x0, .int x1] M (fX8_letterOf n0 x0 x1 M) :=
  CT.mk LXok hI (by decide) (Nat.le_of_ble_eq_true rfl) (fun hO => tfX8_letterOf n0 hO x0 x1 M)
/-! X8_fillUp -/
def bX8_fillUp_4 (n0 : Nat) (k4 : Int32 → Int32 → Mem → Option (Int32 × Mem)) (x2 : Int32) (x3 : Int32) (M : Mem) : Option (Int32 × Mem) :=
  if (6 : Int32) ≤ x3 then
    some (x2, M)
  else
    bnd (x2 * (27 : Int32)) fun x2_14 =>
    k4 x2_14 (x3 + (1 : Int32)) M
def fX8_fillUp_4 (n0 : Nat) : Int32 → Int32 → Mem → Option (Int32 × Mem) := loopN (bX8_fillUp_4 n0) (fun _ _ _ => none) n0
def fX8_fillUp (n0 : Nat) (x0 : Int32) (x1 : Int32) (M : Mem) : Option (Int32 × Mem) :=
  fX8_fillUp_4 n0 x0 x1 M
theorem tbX8_fillUp_4 (n0 : Nat) (hO : OKc p (rmL 1) s m args meth c LX D cy ad cX8_fillUp RX8 4 1 (some .int)) (k4 : Int32 → Int32 → Mem → Option (Int32 × Mem)) (hk4 : ∀ (x2 : Int32) (x3 : Int32) (M : Mem), BL p l e (rmL 1) s m args below meth c LX D cy ad 4 (QI LX D cy ad) 4 [(2, .int x2), (3, .int x3)] [] M (k4 x2 x3 M)) (x2 : Int32) (x3 : Int32) (M : Mem) : BL p l e (rmL 1) s m args below meth c LX D cy ad 4 (QI LX D cy ad) 4 [(2, .int x2), (3, .int x3)] [] M (bX8_fillUp_4 n0 k4 x2 x3 M) := by
  unfold bX8_fillUp_4
  refine b_iload_n hO dX8_fillUp_4 1 rfl rfl ?_
  refine b_bipush hO dX8_fillUp_5 ic_b_6 ?_
  refine b_icmp_ge hO dX8_fillUp_7 (tgt := 21) (by decide) ?_ ?_
  · refine b_iload_n hO dX8_fillUp_21 0 rfl rfl ?_
    exact b_iret hO dX8_fillUp_22
  · refine b_iload_n hO dX8_fillUp_10 0 rfl rfl ?_
    refine b_bipush hO dX8_fillUp_11 ic_b_27 ?_
    refine b_imul hO dX8_fillUp_13 ?_
    refine b_topI (fun x2_14 => ?_)
    refine b_istore_n hO dX8_fillUp_14 rfl (by decide) (lv' := [(2, .int _), (3, .int _)]) rfl ?_
    refine b_iinc hO dX8_fillUp_15 1 rfl ic_i_1 (by decide) (lv' := [(3, .int _), (2, .int _)]) rfl ?_
    refine b_goto hO dX8_fillUp_18 (tgt := 4) (by decide) ?_
    refine b_sub [1, 0] rfl ?_
    exact hk4 _ _ _
theorem lX8_fillUp_4 (n0 : Nat) (hO : OKc p (rmL 1) s m args meth c LX D cy ad cX8_fillUp RX8 4 1 (some .int)) : ∀ (w : Nat) (x2 : Int32) (x3 : Int32) (M : Mem), BL p l e (rmL 1) s m args below meth c LX D cy ad 4 (QI LX D cy ad) 4 [(2, .int x2), (3, .int x3)] [] M (loopN (bX8_fillUp_4 n0) (fun _ _ _ => none) w x2 x3 M) := by
  intro w
  induction w with
  | zero =>
    intros
    exact b_none
  | succ w ih =>
    intro x2 x3 M
    exact tbX8_fillUp_4 n0 hO _ ih x2 x3 M
theorem tfX8_fillUp_4 (n0 : Nat) (hO : OKc p (rmL 1) s m args meth c LX D cy ad cX8_fillUp RX8 4 1 (some .int)) (x2 : Int32) (x3 : Int32) (M : Mem) : BL p l e (rmL 1) s m args below meth c LX D cy ad 4 (QI LX D cy ad) 4 [(2, .int x2), (3, .int x3)] [] M (fX8_fillUp_4 n0 x2 x3 M) := lX8_fillUp_4 n0 hO n0 x2 x3 M
theorem tfX8_fillUp (n0 : Nat) (hO : OKc p (rmL 1) s m args meth c LX D cy ad cX8_fillUp RX8 4 1 (some .int)) (x0 : Int32) (x1 : Int32) (M : Mem) : BL p l e (rmL 1) s m args below meth c LX D cy ad 4 (QI LX D cy ad) 0 [(0, .int x0), (1, .int x1)] [] M (fX8_fillUp n0 x0 x1 M) := by
  unfold fX8_fillUp
  refine b_iload_n hO dX8_fillUp_0 0 rfl rfl ?_
  refine b_istore_n hO dX8_fillUp_1 rfl (by decide) (lv' := [(2, .int _), (0, .int _), (1, .int _)]) rfl ?_
  refine b_iload_n hO dX8_fillUp_2 2 rfl rfl ?_
  refine b_istore_n hO dX8_fillUp_3 rfl (by decide) (lv' := [(3, .int _), (2, .int _), (0, .int _), (1, .int _)]) rfl ?_
  refine b_sub [1, 0] rfl ?_
  exact tfX8_fillUp_4 n0 hO _ _ _
theorem ctX8_fillUp (n0 : Nat) (hI : Inj LX ad) (x0 : Int32) (x1 : Int32) (M : Mem) : CT l LX D cy ad yX8_fillUp cX8_fillUp 4 (some .int) 1 (QI LX D cy ad) [.int x0, .int x1] M (fX8_fillUp n0 x0 x1 M) :=
  CT.mk LXok hI (by decide) (Nat.le_of_ble_eq_true rfl) (fun hO => tfX8_fillUp n0 hO x0 x1 M)
/-! X8_isWordOrNumber -/
def fX8_isWordOrNumber (n0 : Nat) (M : Mem) : Option (Int32 × Mem) :=
  if (gI M 386) < (256 : Int32) then
    some ((0 : Int32), M)
  else
    if (gI M 386) = (259 : Int32) then
      some ((0 : Int32), M)
    else
      some ((1 : Int32), M)
theorem tfX8_isWordOrNumber (n0 : Nat) (hO : OKc p (rmL 1) s m args meth c LX D cy ad cX8_isWordOrNumber RX8 1 1 (some .boolean)) (M : Mem) : BL p l e (rmL 1) s m args below meth c LX D cy ad 1 (QI LX D cy ad) 0 [(0, .ref (ad 3))] [] M (fX8_isWordOrNumber n0 M) := by
  unfold fX8_isWordOrNumber
  refine b_aload_n hO dX8_isWordOrNumber_0 0 rfl rfl ?_
  refine b_get hO flX8_15 kLX_3 (v := .int (gI _ 386)) rfl dX8_isWordOrNumber_1 ?_
  refine b_sipush hO dX8_isWordOrNumber_4 ic_s_256 ?_
  refine b_icmp_lt hO dX8_isWordOrNumber_7 (tgt := 24) (by decide) ?_ ?_
  · refine b_iconst hO dX8_isWordOrNumber_24 ic_i_0 ?_
    exact b_zretc hO (Or.inl rfl) dX8_isWordOrNumber_25
  · refine b_aload_n hO dX8_isWordOrNumber_10 0 rfl rfl ?_
    refine b_get hO flX8_15 kLX_3 (v := .int (gI _ 386)) rfl dX8_isWordOrNumber_11 ?_
    refine b_sipush hO dX8_isWordOrNumber_14 ic_s_259 ?_
    refine b_icmp_eq hO dX8_isWordOrNumber_17 (tgt := 24) (by decide) ?_ ?_
    · refine b_iconst hO dX8_isWordOrNumber_24 ic_i_0 ?_
      exact b_zretc hO (Or.inl rfl) dX8_isWordOrNumber_25
    · refine b_iconst hO dX8_isWordOrNumber_20 ic_i_1 ?_
      refine b_goto hO dX8_isWordOrNumber_21 (tgt := 25) (by decide) ?_
      exact b_zretc hO (Or.inr rfl) dX8_isWordOrNumber_25
theorem ctX8_isWordOrNumber (n0 : Nat) (hI : Inj LX ad) (M : Mem) : CT l LX D cy ad yX8_isWordOrNumber cX8_isWordOrNumber 1 (some .boolean) 1 (QI LX D cy ad) [.ref (ad 3)] M (fX8_isWordOrNumber n0 M) :=
  CT.mk LXok hI (by decide) (Nat.le_of_ble_eq_true rfl) (fun hO => tfX8_isWordOrNumber n0 hO M)
/-! X8_skipBlanks -/
def fX8_skipBlanks_42 (n0 : Nat) (k5 : Int32 → Mem → Option (Mem)) (x1 : Int32) (M : Mem) : Option (Mem) :=
  bnd (sI M 390 (x1 + (1 : Int32))) fun M46 =>
  k5 (x1 + (1 : Int32)) M46
def bX8_skipBlanks_5 (n0 : Nat) (k5 : Int32 → Mem → Option (Mem)) (x1 : Int32) (M : Mem) : Option (Mem) :=
  if (gI M 641) ≤ x1 then
    some M
  else
    (fX7_at n0 x1 M).bind fun z21 =>
    if z21.1 = (32 : Int32) then
      fX8_skipBlanks_42 n0 k5 x1 z21.2
    else
      (fX7_at n0 x1 z21.2).bind fun z34 =>
      if z34.1 = (10 : Int32) then
        fX8_skipBlanks_42 n0 k5 x1 z34.2
      else
        some z34.2
def fX8_skipBlanks_5 (n0 : Nat) : Int32 → Mem → Option (Mem) := loopN (bX8_skipBlanks_5 n0) (fun _ _ => none) n0
def fX8_skipBlanks (n0 : Nat) (M : Mem) : Option (Mem) :=
  bnd (gI M 390) fun x1_4 =>
  fX8_skipBlanks_5 n0 x1_4 M
theorem tfX8_skipBlanks_42 (n0 : Nat) (hO : OKc p (rmL 2) s m args meth c LX D cy ad cX8_skipBlanks RX8 2 2 none) (k5 : Int32 → Mem → Option (Mem)) (hk5 : ∀ (x1 : Int32) (M : Mem), BL p l e (rmL 2) s m args below meth c LX D cy ad 2 (QV LX D cy ad) 5 [(0, .ref (ad 3)), (1, .int x1)] [] M (k5 x1 M)) (x1 : Int32) (M : Mem) : BL p l e (rmL 2) s m args below meth c LX D cy ad 2 (QV LX D cy ad) 42 [(0, .ref (ad 3)), (1, .int x1)] [] M (fX8_skipBlanks_42 n0 k5 x1 M) := by
  unfold fX8_skipBlanks_42
  refine b_aload_n hO dX8_skipBlanks_42 0 rfl rfl ?_
  refine b_iload_n hO dX8_skipBlanks_43 1 rfl rfl ?_
  refine b_iconst hO dX8_skipBlanks_44 ic_i_1 ?_
  refine b_iadd hO dX8_skipBlanks_45 ?_
  refine b_putI hO flX8_28 kLX_3 rfl rfl rfl (id := 390) rfl dX8_skipBlanks_46 ?_
  refine b_bnd (fun M46 => ?_)
  refine b_iinc hO dX8_skipBlanks_49 1 rfl ic_i_1 (by decide) (lv' := [(1, .int _), (0, .ref _)]) rfl ?_
  refine b_goto hO dX8_skipBlanks_52 (tgt := 5) (by decide) ?_
  refine b_sub [1, 0] rfl ?_
  exact hk5 _ _
theorem tbX8_skipBlanks_5 (n0 : Nat) (hO : OKc p (rmL 2) s m args meth c LX D cy ad cX8_skipBlanks RX8 2 2 none) (k5 : Int32 → Mem → Option (Mem)) (hk5 : ∀ (x1 : Int32) (M : Mem), BL p l e (rmL 2) s m args below meth c LX D cy ad 2 (QV LX D cy ad) 5 [(0, .ref (ad 3)), (1, .int x1)] [] M (k5 x1 M)) (x1 : Int32) (M : Mem) : BL p l e (rmL 2) s m args below meth c LX D cy ad 2 (QV LX D cy ad) 5 [(0, .ref (ad 3)), (1, .int x1)] [] M (bX8_skipBlanks_5 n0 k5 x1 M) := by
  unfold bX8_skipBlanks_5
  refine b_iload_n hO dX8_skipBlanks_5 1 rfl rfl ?_
  refine b_aload_n hO dX8_skipBlanks_6 0 rfl rfl ?_
  refine b_get hO flX8_37 kLX_3 (v := .ref (ad 5)) rfl dX8_skipBlanks_7 ?_
  refine b_get hO flX8_93 kLX_5 (v := .int (gI _ 641)) rfl dX8_skipBlanks_10 ?_
  refine b_icmp_ge hO dX8_skipBlanks_13 (tgt := 55) (by decide) ?_ ?_
  · exact b_vret hO dX8_skipBlanks_55
  · refine b_aload_n hO dX8_skipBlanks_16 0 rfl rfl ?_
    refine b_get hO flX8_37 kLX_3 (v := .ref (ad 5)) rfl dX8_skipBlanks_17 ?_
    refine b_iload_n hO dX8_skipBlanks_20 1 rfl rfl ?_
    refine b_callVI hO mdX7_at mvX7_at w711 (ci := 7) rfl rfl (by decide) kLX_5 (As := [.int _]) (st := []) (ctX7_at n0 hO.2.2.2.2.2.2.1 _ _) (Nat.le_of_ble_eq_true rfl) rfl rfl (Nat.le_of_ble_eq_true rfl) dX8_skipBlanks_21 (fun z21 => ?_)
    refine b_bipush hO dX8_skipBlanks_24 ic_b_32 ?_
    refine b_icmp_eq hO dX8_skipBlanks_26 (tgt := 42) (by decide) ?_ ?_
    · exact tfX8_skipBlanks_42 n0 hO k5 hk5 _ _
    · refine b_aload_n hO dX8_skipBlanks_29 0 rfl rfl ?_
      refine b_get hO flX8_37 kLX_3 (v := .ref (ad 5)) rfl dX8_skipBlanks_30 ?_
      refine b_iload_n hO dX8_skipBlanks_33 1 rfl rfl ?_
      refine b_callVI hO mdX7_at mvX7_at w711 (ci := 7) rfl rfl (by decide) kLX_5 (As := [.int _]) (st := []) (ctX7_at n0 hO.2.2.2.2.2.2.1 _ _) (Nat.le_of_ble_eq_true rfl) rfl rfl (Nat.le_of_ble_eq_true rfl) dX8_skipBlanks_34 (fun z34 => ?_)
      refine b_bipush hO dX8_skipBlanks_37 ic_b_10 ?_
      refine b_icmp_ne hO dX8_skipBlanks_39 (tgt := 55) (by decide) ?_ ?_
      · exact b_vret hO dX8_skipBlanks_55
      · exact tfX8_skipBlanks_42 n0 hO k5 hk5 _ _
theorem lX8_skipBlanks_5 (n0 : Nat) (hO : OKc p (rmL 2) s m args meth c LX D cy ad cX8_skipBlanks RX8 2 2 none) : ∀ (w : Nat) (x1 : Int32) (M : Mem), BL p l e (rmL 2) s m args below meth c LX D cy ad 2 (QV LX D cy ad) 5 [(0, .ref (ad 3)), (1, .int x1)] [] M (loopN (bX8_skipBlanks_5 n0) (fun _ _ => none) w x1 M) := by
  intro w
  induction w with
  | zero =>
    intros
    exact b_none
  | succ w ih =>
    intro x1 M
    exact tbX8_skipBlanks_5 n0 hO _ ih x1 M
theorem tfX8_skipBlanks_5 (n0 : Nat) (hO : OKc p (rmL 2) s m args meth c LX D cy ad cX8_skipBlanks RX8 2 2 none) (x1 : Int32) (M : Mem) : BL p l e (rmL 2) s m args below meth c LX D cy ad 2 (QV LX D cy ad) 5 [(0, .ref (ad 3)), (1, .int x1)] [] M (fX8_skipBlanks_5 n0 x1 M) := lX8_skipBlanks_5 n0 hO n0 x1 M
theorem tfX8_skipBlanks (n0 : Nat) (hO : OKc p (rmL 2) s m args meth c LX D cy ad cX8_skipBlanks RX8 2 2 none) (M : Mem) : BL p l e (rmL 2) s m args below meth c LX D cy ad 2 (QV LX D cy ad) 0 [(0, .ref (ad 3))] [] M (fX8_skipBlanks n0 M) := by
  unfold fX8_skipBlanks
  refine b_aload_n hO dX8_skipBlanks_0 0 rfl rfl ?_
  refine b_get hO flX8_28 kLX_3 (v := .int (gI _ 390)) rfl dX8_skipBlanks_1 ?_
  refine b_topI (fun x1_4 => ?_)
  refine b_istore_n hO dX8_skipBlanks_4 rfl (by decide) (lv' := [(1, .int _), (0, .ref _)]) rfl ?_
  refine b_sub [1, 0] rfl ?_
  exact tfX8_skipBlanks_5 n0 hO _ _
theorem ctX8_skipBlanks (n0 : Nat) (hI : Inj LX ad) (M : Mem) : CT l LX D cy ad yX8_skipBlanks cX8_skipBlanks 2 none 2 (QV LX D cy ad) [.ref (ad 3)] M (fX8_skipBlanks n0 M) :=
  CT.mk LXok hI (by decide) (Nat.le_of_ble_eq_true rfl) (fun hO => tfX8_skipBlanks n0 hO M)
/-! X8_isLetter -/
def fX8_isLetter (n0 : Nat) (x0 : Int32) (M : Mem) : Option (Int32 × Mem) :=
  if x0 < (97 : Int32) then
    some ((0 : Int32), M)
  else
    if (122 : Int32) < x0 then
      some ((0 : Int32), M)
    else
      some ((1 : Int32), M)
theorem tfX8_isLetter (n0 : Nat) (hO : OKc p (rmL 1) s m args meth c LX D cy ad cX8_isLetter RX8 1 1 (some .boolean)) (x0 : Int32) (M : Mem) : BL p l e (rmL 1) s m args below meth c LX D cy ad 1 (QI LX D cy ad) 0 [(0, .int x0)] [] M (fX8_isLetter n0 x0 M) := by
  unfold fX8_isLetter
  refine b_iload_n hO dX8_isLetter_0 0 rfl rfl ?_
  refine b_bipush hO dX8_isLetter_1 ic_b_97 ?_
  refine b_icmp_lt hO dX8_isLetter_3 (tgt := 16) (by decide) ?_ ?_
  · refine b_iconst hO dX8_isLetter_16 ic_i_0 ?_
    exact b_zretc hO (Or.inl rfl) dX8_isLetter_17
  · refine b_iload_n hO dX8_isLetter_6 0 rfl rfl ?_
    refine b_bipush hO dX8_isLetter_7 ic_b_122 ?_
    refine b_icmp_gt hO dX8_isLetter_9 (tgt := 16) (by decide) ?_ ?_
    · refine b_iconst hO dX8_isLetter_16 ic_i_0 ?_
      exact b_zretc hO (Or.inl rfl) dX8_isLetter_17
    · refine b_iconst hO dX8_isLetter_12 ic_i_1 ?_
      refine b_goto hO dX8_isLetter_13 (tgt := 17) (by decide) ?_
      exact b_zretc hO (Or.inr rfl) dX8_isLetter_17
theorem ctX8_isLetter (n0 : Nat) (hI : Inj LX ad) (x0 : Int32) (M : Mem) : CT l LX D cy ad yX8_isLetter cX8_isLetter 1 (some .boolean) 1 (QI LX D cy ad) [.int x0] M (fX8_isLetter n0 x0 M) :=
  CT.mk LXok hI (by decide) (Nat.le_of_ble_eq_true rfl) (fun hO => tfX8_isLetter n0 hO x0 M)
/-! X8_kindOf -/
def bX8_kindOf_2 (n0 : Nat) (k2 : Int32 → Int32 → Mem → Option (Int32 × Mem)) (x1 : Int32) (x2 : Int32) (M : Mem) : Option (Int32 × Mem) :=
  if (25 : Int32) ≤ x2 then
    some ((257 : Int32), M)
  else
    if oob x2 25 then none else
    if (gA M 4 (Int32.toNatClampNeg x2)) = x1 then
      some (((260 : Int32) + x2), M)
    else
      k2 x1 (x2 + (1 : Int32)) M
def fX8_kindOf_2 (n0 : Nat) : Int32 → Int32 → Mem → Option (Int32 × Mem) := loopN (bX8_kindOf_2 n0) (fun _ _ _ => none) n0
def fX8_kindOf (n0 : Nat) (x1 : Int32) (M : Mem) : Option (Int32 × Mem) :=
  fX8_kindOf_2 n0 x1 (0 : Int32) M
theorem tbX8_kindOf_2 (n0 : Nat) (hO : OKc p (rmL 1) s m args meth c LX D cy ad cX8_kindOf RX8 3 1 (some .int)) (k2 : Int32 → Int32 → Mem → Option (Int32 × Mem)) (hk2 : ∀ (x1 : Int32) (x2 : Int32) (M : Mem), BL p l e (rmL 1) s m args below meth c LX D cy ad 3 (QI LX D cy ad) 2 [(0, .ref (ad 3)), (1, .int x1), (2, .int x2)] [] M (k2 x1 x2 M)) (x1 : Int32) (x2 : Int32) (M : Mem) : BL p l e (rmL 1) s m args below meth c LX D cy ad 3 (QI LX D cy ad) 2 [(0, .ref (ad 3)), (1, .int x1), (2, .int x2)] [] M (bX8_kindOf_2 n0 k2 x1 x2 M) := by
  unfold bX8_kindOf_2
  refine b_iload_n hO dX8_kindOf_2 2 rfl rfl ?_
  refine b_bipush hO dX8_kindOf_3 ic_b_25 ?_
  refine b_icmp_ge hO dX8_kindOf_5 (tgt := 30) (by decide) ?_ ?_
  · refine b_sipush hO dX8_kindOf_30 ic_s_257 ?_
    exact b_iret hO dX8_kindOf_33
  · refine b_aload_n hO dX8_kindOf_8 0 rfl rfl ?_
    refine b_get hO flX8_11 kLX_3 (v := .ref (ad 4)) rfl dX8_kindOf_9 ?_
    refine b_iload_n hO dX8_kindOf_12 2 rfl rfl ?_
    refine b_iald hO kLX_4 (n := 25) rfl dX8_kindOf_13 ?_
    refine b_iload_n hO dX8_kindOf_14 1 rfl rfl ?_
    refine b_icmp_ne hO dX8_kindOf_15 (tgt := 24) (by decide) ?_ ?_
    · refine b_iinc hO dX8_kindOf_24 2 rfl ic_i_1 (by decide) (lv' := [(2, .int _), (0, .ref _), (1, .int _)]) rfl ?_
      refine b_goto hO dX8_kindOf_27 (tgt := 2) (by decide) ?_
      refine b_sub [1, 2, 0] rfl ?_
      exact hk2 _ _ _
    · refine b_sipush hO dX8_kindOf_18 ic_s_260 ?_
      refine b_iload_n hO dX8_kindOf_21 2 rfl rfl ?_
      refine b_iadd hO dX8_kindOf_22 ?_
      exact b_iret hO dX8_kindOf_23
theorem lX8_kindOf_2 (n0 : Nat) (hO : OKc p (rmL 1) s m args meth c LX D cy ad cX8_kindOf RX8 3 1 (some .int)) : ∀ (w : Nat) (x1 : Int32) (x2 : Int32) (M : Mem), BL p l e (rmL 1) s m args below meth c LX D cy ad 3 (QI LX D cy ad) 2 [(0, .ref (ad 3)), (1, .int x1), (2, .int x2)] [] M (loopN (bX8_kindOf_2 n0) (fun _ _ _ => none) w x1 x2 M) := by
  intro w
  induction w with
  | zero =>
    intros
    exact b_none
  | succ w ih =>
    intro x1 x2 M
    exact tbX8_kindOf_2 n0 hO _ ih x1 x2 M
theorem tfX8_kindOf_2 (n0 : Nat) (hO : OKc p (rmL 1) s m args meth c LX D cy ad cX8_kindOf RX8 3 1 (some .int)) (x1 : Int32) (x2 : Int32) (M : Mem) : BL p l e (rmL 1) s m args below meth c LX D cy ad 3 (QI LX D cy ad) 2 [(0, .ref (ad 3)), (1, .int x1), (2, .int x2)] [] M (fX8_kindOf_2 n0 x1 x2 M) := lX8_kindOf_2 n0 hO n0 x1 x2 M
theorem tfX8_kindOf (n0 : Nat) (hO : OKc p (rmL 1) s m args meth c LX D cy ad cX8_kindOf RX8 3 1 (some .int)) (x1 : Int32) (M : Mem) : BL p l e (rmL 1) s m args below meth c LX D cy ad 3 (QI LX D cy ad) 0 [(0, .ref (ad 3)), (1, .int x1)] [] M (fX8_kindOf n0 x1 M) := by
  unfold fX8_kindOf
  refine b_iconst hO dX8_kindOf_0 ic_i_0 ?_
  refine b_istore_n hO dX8_kindOf_1 rfl (by decide) (lv' := [(2, .int _), (0, .ref _), (1, .int _)]) rfl ?_
  refine b_sub [1, 2, 0] rfl ?_
  exact tfX8_kindOf_2 n0 hO _ _ _
theorem ctX8_kindOf (n0 : Nat) (hI : Inj LX ad) (x1 : Int32) (M : Mem) : CT l LX D cy ad yX8_kindOf cX8_kindOf 3 (some .int) 1 (QI LX D cy ad) [.ref (ad 3), .int x1] M (fX8_kindOf n0 x1 M) :=
  CT.mk LXok hI (by decide) (Nat.le_of_ble_eq_true rfl) (fun hO => tfX8_kindOf n0 hO x1 M)
/-! X8_readWord -/
def fX8_readWord_62 (n0 : Nat) (k7 : Int32 → Int32 → Mem → Option (Mem)) (x1 : Int32) (x2 : Int32) (M : Mem) : Option (Mem) :=
  bnd (sI M 390 (x2 + (1 : Int32))) fun M66 =>
  k7 x1 (x2 + (1 : Int32)) M66
def fX8_readWord_75 (n0 : Nat) (x1 : Int32) (M : Mem) : Option (Mem) :=
  if ((gI M 390) - (gI M 387)) ≤ (6 : Int32) then
    (fX8_fillUp n0 x1 ((gI M 390) - (gI M 387)) M).bind fun z119 =>
    bnd (sI z119.2 389 z119.1) fun M122 =>
    (fX8_kindOf n0 (gI M122 389) M122).bind fun z131 =>
    some (sI z131.2 386 z131.1)
  else
    bnd (sI M 386 (258 : Int32)) fun M93 =>
    some (sI M93 388 ((gI M93 387) + (6 : Int32)))
def bX8_readWord_7 (n0 : Nat) (k7 : Int32 → Int32 → Mem → Option (Mem)) (x1 : Int32) (x2 : Int32) (M : Mem) : Option (Mem) :=
  if (gI M 641) ≤ x2 then
    fX8_readWord_75 n0 x1 M
  else
    (fX7_at n0 x2 M).bind fun z23 =>
    (fX8_isLetter n0 z23.1 z23.2).bind fun z26 =>
    if z26.1 = 0 then
      fX8_readWord_75 n0 x1 z26.2
    else
      if (6 : Int32) ≤ (x2 - (gI z26.2 387)) then
        fX8_readWord_62 n0 k7 x1 x2 z26.2
      else
        (fX7_at n0 x2 z26.2).bind fun z52 =>
        bnd (((((27 : Int32) * x1) + z52.1) - (97 : Int32)) + (1 : Int32)) fun x1_61 =>
        fX8_readWord_62 n0 k7 x1_61 x2 z52.2
def fX8_readWord_7 (n0 : Nat) : Int32 → Int32 → Mem → Option (Mem) := loopN (bX8_readWord_7 n0) (fun _ _ _ => none) n0
def fX8_readWord (n0 : Nat) (M : Mem) : Option (Mem) :=
  bnd (gI M 387) fun x2_6 =>
  fX8_readWord_7 n0 (0 : Int32) x2_6 M
theorem tfX8_readWord_62 (n0 : Nat) (hO : OKc p (rmL 2) s m args meth c LX D cy ad cX8_readWord RX8 3 2 none) (k7 : Int32 → Int32 → Mem → Option (Mem)) (hk7 : ∀ (x1 : Int32) (x2 : Int32) (M : Mem), BL p l e (rmL 2) s m args below meth c LX D cy ad 3 (QV LX D cy ad) 7 [(0, .ref (ad 3)), (1, .int x1), (2, .int x2)] [] M (k7 x1 x2 M)) (x1 : Int32) (x2 : Int32) (M : Mem) : BL p l e (rmL 2) s m args below meth c LX D cy ad 3 (QV LX D cy ad) 62 [(0, .ref (ad 3)), (1, .int x1), (2, .int x2)] [] M (fX8_readWord_62 n0 k7 x1 x2 M) := by
  unfold fX8_readWord_62
  refine b_aload_n hO dX8_readWord_62 0 rfl rfl ?_
  refine b_iload_n hO dX8_readWord_63 2 rfl rfl ?_
  refine b_iconst hO dX8_readWord_64 ic_i_1 ?_
  refine b_iadd hO dX8_readWord_65 ?_
  refine b_putI hO flX8_28 kLX_3 rfl rfl rfl (id := 390) rfl dX8_readWord_66 ?_
  refine b_bnd (fun M66 => ?_)
  refine b_iinc hO dX8_readWord_69 2 rfl ic_i_1 (by decide) (lv' := [(2, .int _), (0, .ref _), (1, .int _)]) rfl ?_
  refine b_goto hO dX8_readWord_72 (tgt := 7) (by decide) ?_
  refine b_sub [1, 2, 0] rfl ?_
  exact hk7 _ _ _
theorem tfX8_readWord_75 (n0 : Nat) (hO : OKc p (rmL 2) s m args meth c LX D cy ad cX8_readWord RX8 3 2 none) (x1 : Int32) (M : Mem) : BL p l e (rmL 2) s m args below meth c LX D cy ad 3 (QV LX D cy ad) 75 [(0, .ref (ad 3)), (1, .int x1)] [] M (fX8_readWord_75 n0 x1 M) := by
  unfold fX8_readWord_75
  refine b_aload_n hO dX8_readWord_75 0 rfl rfl ?_
  refine b_get hO flX8_28 kLX_3 (v := .int (gI _ 390)) rfl dX8_readWord_76 ?_
  refine b_aload_n hO dX8_readWord_79 0 rfl rfl ?_
  refine b_get hO flX8_19 kLX_3 (v := .int (gI _ 387)) rfl dX8_readWord_80 ?_
  refine b_isub hO dX8_readWord_83 ?_
  refine b_bipush hO dX8_readWord_84 ic_b_6 ?_
  refine b_icmp_le hO dX8_readWord_86 (tgt := 108) (by decide) ?_ ?_
  · refine b_aload_n hO dX8_readWord_108 0 rfl rfl ?_
    refine b_iload_n hO dX8_readWord_109 1 rfl rfl ?_
    refine b_aload_n hO dX8_readWord_110 0 rfl rfl ?_
    refine b_get hO flX8_28 kLX_3 (v := .int (gI _ 390)) rfl dX8_readWord_111 ?_
    refine b_aload_n hO dX8_readWord_114 0 rfl rfl ?_
    refine b_get hO flX8_19 kLX_3 (v := .int (gI _ 387)) rfl dX8_readWord_115 ?_
    refine b_isub hO dX8_readWord_118 ?_
    refine b_callSI hO mdX8_fillUp w344 w343 (As := [.int _, .int _]) (st := [.ref _]) (ctX8_fillUp n0 hO.2.2.2.2.2.2.1 _ _ _) (Nat.le_of_ble_eq_true rfl) rfl rfl (Nat.le_of_ble_eq_true rfl) dX8_readWord_119 (fun z119 => ?_)
    refine b_putI hO flX8_25 kLX_3 rfl rfl rfl (id := 389) rfl dX8_readWord_122 ?_
    refine b_bnd (fun M122 => ?_)
    refine b_aload_n hO dX8_readWord_125 0 rfl rfl ?_
    refine b_aload_n hO dX8_readWord_126 0 rfl rfl ?_
    refine b_aload_n hO dX8_readWord_127 0 rfl rfl ?_
    refine b_get hO flX8_25 kLX_3 (v := .int (gI _ 389)) rfl dX8_readWord_128 ?_
    refine b_callVI hO mdX8_kindOf mvX8_kindOf w722 (ci := 8) rfl rfl (by decide) kLX_3 (As := [.int _]) (st := [.ref _]) (ctX8_kindOf n0 hO.2.2.2.2.2.2.1 _ _) (Nat.le_of_ble_eq_true rfl) rfl rfl (Nat.le_of_ble_eq_true rfl) dX8_readWord_131 (fun z131 => ?_)
    refine b_putI hO flX8_15 kLX_3 rfl rfl rfl (id := 386) rfl dX8_readWord_134 ?_
    exact b_vret hO dX8_readWord_137
  · refine b_aload_n hO dX8_readWord_89 0 rfl rfl ?_
    refine b_sipush hO dX8_readWord_90 ic_s_258 ?_
    refine b_putI hO flX8_15 kLX_3 rfl rfl rfl (id := 386) rfl dX8_readWord_93 ?_
    refine b_bnd (fun M93 => ?_)
    refine b_aload_n hO dX8_readWord_96 0 rfl rfl ?_
    refine b_aload_n hO dX8_readWord_97 0 rfl rfl ?_
    refine b_get hO flX8_19 kLX_3 (v := .int (gI _ 387)) rfl dX8_readWord_98 ?_
    refine b_bipush hO dX8_readWord_101 ic_b_6 ?_
    refine b_iadd hO dX8_readWord_103 ?_
    refine b_putI hO flX8_22 kLX_3 rfl rfl rfl (id := 388) rfl dX8_readWord_104 ?_
    exact b_vret hO dX8_readWord_107
theorem tbX8_readWord_7 (n0 : Nat) (hO : OKc p (rmL 2) s m args meth c LX D cy ad cX8_readWord RX8 3 2 none) (k7 : Int32 → Int32 → Mem → Option (Mem)) (hk7 : ∀ (x1 : Int32) (x2 : Int32) (M : Mem), BL p l e (rmL 2) s m args below meth c LX D cy ad 3 (QV LX D cy ad) 7 [(0, .ref (ad 3)), (1, .int x1), (2, .int x2)] [] M (k7 x1 x2 M)) (x1 : Int32) (x2 : Int32) (M : Mem) : BL p l e (rmL 2) s m args below meth c LX D cy ad 3 (QV LX D cy ad) 7 [(0, .ref (ad 3)), (1, .int x1), (2, .int x2)] [] M (bX8_readWord_7 n0 k7 x1 x2 M) := by
  unfold bX8_readWord_7
  refine b_iload_n hO dX8_readWord_7 2 rfl rfl ?_
  refine b_aload_n hO dX8_readWord_8 0 rfl rfl ?_
  refine b_get hO flX8_37 kLX_3 (v := .ref (ad 5)) rfl dX8_readWord_9 ?_
  refine b_get hO flX8_93 kLX_5 (v := .int (gI _ 641)) rfl dX8_readWord_12 ?_
  refine b_icmp_ge hO dX8_readWord_15 (tgt := 75) (by decide) ?_ ?_
  · refine b_sub [0, 1] rfl ?_
    exact tfX8_readWord_75 n0 hO _ _
  · refine b_aload_n hO dX8_readWord_18 0 rfl rfl ?_
    refine b_get hO flX8_37 kLX_3 (v := .ref (ad 5)) rfl dX8_readWord_19 ?_
    refine b_iload_n hO dX8_readWord_22 2 rfl rfl ?_
    refine b_callVI hO mdX7_at mvX7_at w711 (ci := 7) rfl rfl (by decide) kLX_5 (As := [.int _]) (st := []) (ctX7_at n0 hO.2.2.2.2.2.2.1 _ _) (Nat.le_of_ble_eq_true rfl) rfl rfl (Nat.le_of_ble_eq_true rfl) dX8_readWord_23 (fun z23 => ?_)
    refine b_callSI hO mdX8_isLetter w716 w715 (As := [.int _]) (st := []) (ctX8_isLetter n0 hO.2.2.2.2.2.2.1 _ _) (Nat.le_of_ble_eq_true rfl) rfl rfl (Nat.le_of_ble_eq_true rfl) dX8_readWord_26 (fun z26 => ?_)
    refine b_if_eq hO dX8_readWord_29 (tgt := 75) (by decide) ?_ ?_
    · refine b_sub [0, 1] rfl ?_
      exact tfX8_readWord_75 n0 hO _ _
    · refine b_iload_n hO dX8_readWord_32 2 rfl rfl ?_
      refine b_aload_n hO dX8_readWord_33 0 rfl rfl ?_
      refine b_get hO flX8_19 kLX_3 (v := .int (gI _ 387)) rfl dX8_readWord_34 ?_
      refine b_isub hO dX8_readWord_37 ?_
      refine b_bipush hO dX8_readWord_38 ic_b_6 ?_
      refine b_icmp_ge hO dX8_readWord_40 (tgt := 62) (by decide) ?_ ?_
      · exact tfX8_readWord_62 n0 hO k7 hk7 _ _ _
      · refine b_bipush hO dX8_readWord_43 ic_b_27 ?_
        refine b_iload_n hO dX8_readWord_45 1 rfl rfl ?_
        refine b_imul hO dX8_readWord_46 ?_
        refine b_aload_n hO dX8_readWord_47 0 rfl rfl ?_
        refine b_get hO flX8_37 kLX_3 (v := .ref (ad 5)) rfl dX8_readWord_48 ?_
        refine b_iload_n hO dX8_readWord_51 2 rfl rfl ?_
        refine b_callVI hO mdX7_at mvX7_at w711 (ci := 7) rfl rfl (by decide) kLX_5 (As := [.int _]) (st := [.int _]) (ctX7_at n0 hO.2.2.2.2.2.2.1 _ _) (Nat.le_of_ble_eq_true rfl) rfl rfl (Nat.le_of_ble_eq_true rfl) dX8_readWord_52 (fun z52 => ?_)
        refine b_iadd hO dX8_readWord_55 ?_
        refine b_bipush hO dX8_readWord_56 ic_b_97 ?_
        refine b_isub hO dX8_readWord_58 ?_
        refine b_iconst hO dX8_readWord_59 ic_i_1 ?_
        refine b_iadd hO dX8_readWord_60 ?_
        refine b_topI (fun x1_61 => ?_)
        refine b_istore_n hO dX8_readWord_61 rfl (by decide) (lv' := [(1, .int _), (0, .ref _), (2, .int _)]) rfl ?_
        refine b_sub [1, 0, 2] rfl ?_
        exact tfX8_readWord_62 n0 hO k7 hk7 _ _ _
theorem lX8_readWord_7 (n0 : Nat) (hO : OKc p (rmL 2) s m args meth c LX D cy ad cX8_readWord RX8 3 2 none) : ∀ (w : Nat) (x1 : Int32) (x2 : Int32) (M : Mem), BL p l e (rmL 2) s m args below meth c LX D cy ad 3 (QV LX D cy ad) 7 [(0, .ref (ad 3)), (1, .int x1), (2, .int x2)] [] M (loopN (bX8_readWord_7 n0) (fun _ _ _ => none) w x1 x2 M) := by
  intro w
  induction w with
  | zero =>
    intros
    exact b_none
  | succ w ih =>
    intro x1 x2 M
    exact tbX8_readWord_7 n0 hO _ ih x1 x2 M
theorem tfX8_readWord_7 (n0 : Nat) (hO : OKc p (rmL 2) s m args meth c LX D cy ad cX8_readWord RX8 3 2 none) (x1 : Int32) (x2 : Int32) (M : Mem) : BL p l e (rmL 2) s m args below meth c LX D cy ad 3 (QV LX D cy ad) 7 [(0, .ref (ad 3)), (1, .int x1), (2, .int x2)] [] M (fX8_readWord_7 n0 x1 x2 M) := lX8_readWord_7 n0 hO n0 x1 x2 M
theorem tfX8_readWord (n0 : Nat) (hO : OKc p (rmL 2) s m args meth c LX D cy ad cX8_readWord RX8 3 2 none) (M : Mem) : BL p l e (rmL 2) s m args below meth c LX D cy ad 3 (QV LX D cy ad) 0 [(0, .ref (ad 3))] [] M (fX8_readWord n0 M) := by
  unfold fX8_readWord
  refine b_iconst hO dX8_readWord_0 ic_i_0 ?_
  refine b_istore_n hO dX8_readWord_1 rfl (by decide) (lv' := [(1, .int _), (0, .ref _)]) rfl ?_
  refine b_aload_n hO dX8_readWord_2 1 rfl rfl ?_
  refine b_get hO flX8_19 kLX_3 (v := .int (gI _ 387)) rfl dX8_readWord_3 ?_
  refine b_topI (fun x2_6 => ?_)
  refine b_istore_n hO dX8_readWord_6 rfl (by decide) (lv' := [(2, .int _), (1, .int _), (0, .ref _)]) rfl ?_
  refine b_sub [2, 1, 0] rfl ?_
  exact tfX8_readWord_7 n0 hO _ _ _
theorem ctX8_readWord (n0 : Nat) (hI : Inj LX ad) (M : Mem) : CT l LX D cy ad yX8_readWord cX8_readWord 3 none 2 (QV LX D cy ad) [.ref (ad 3)] M (fX8_readWord n0 M) :=
  CT.mk LXok hI (by decide) (Nat.le_of_ble_eq_true rfl) (fun hO => tfX8_readWord n0 hO M)
/-! X8_isDigit -/
def fX8_isDigit (n0 : Nat) (x0 : Int32) (M : Mem) : Option (Int32 × Mem) :=
  if x0 < (48 : Int32) then
    some ((0 : Int32), M)
  else
    if (57 : Int32) < x0 then
      some ((0 : Int32), M)
    else
      some ((1 : Int32), M)
theorem tfX8_isDigit (n0 : Nat) (hO : OKc p (rmL 1) s m args meth c LX D cy ad cX8_isDigit RX8 1 1 (some .boolean)) (x0 : Int32) (M : Mem) : BL p l e (rmL 1) s m args below meth c LX D cy ad 1 (QI LX D cy ad) 0 [(0, .int x0)] [] M (fX8_isDigit n0 x0 M) := by
  unfold fX8_isDigit
  refine b_iload_n hO dX8_isDigit_0 0 rfl rfl ?_
  refine b_bipush hO dX8_isDigit_1 ic_b_48 ?_
  refine b_icmp_lt hO dX8_isDigit_3 (tgt := 16) (by decide) ?_ ?_
  · refine b_iconst hO dX8_isDigit_16 ic_i_0 ?_
    exact b_zretc hO (Or.inl rfl) dX8_isDigit_17
  · refine b_iload_n hO dX8_isDigit_6 0 rfl rfl ?_
    refine b_bipush hO dX8_isDigit_7 ic_b_57 ?_
    refine b_icmp_gt hO dX8_isDigit_9 (tgt := 16) (by decide) ?_ ?_
    · refine b_iconst hO dX8_isDigit_16 ic_i_0 ?_
      exact b_zretc hO (Or.inl rfl) dX8_isDigit_17
    · refine b_iconst hO dX8_isDigit_12 ic_i_1 ?_
      refine b_goto hO dX8_isDigit_13 (tgt := 17) (by decide) ?_
      exact b_zretc hO (Or.inr rfl) dX8_isDigit_17
theorem ctX8_isDigit (n0 : Nat) (hI : Inj LX ad) (x0 : Int32) (M : Mem) : CT l LX D cy ad yX8_isDigit cX8_isDigit 1 (some .boolean) 1 (QI LX D cy ad) [.int x0] M (fX8_isDigit n0 x0 M) :=
  CT.mk LXok hI (by decide) (Nat.le_of_ble_eq_true rfl) (fun hO => tfX8_isDigit n0 hO x0 M)
/-! X8_readNumber -/
def fX8_readNumber_59 (n0 : Nat) (k7 : Int32 → Int32 → Mem → Option (Mem)) (x1 : Int32) (x2 : Int32) (M : Mem) : Option (Mem) :=
  bnd (sI M 390 (x2 + (1 : Int32))) fun M63 =>
  k7 x1 (x2 + (1 : Int32)) M63
def fX8_readNumber_72 (n0 : Nat) (x1 : Int32) (M : Mem) : Option (Mem) :=
  bnd (sI M 389 x1) fun M74 =>
  bnd (sI M74 386 (256 : Int32)) fun M81 =>
  if ((gI M81 390) - (gI M81 387)) ≤ (4 : Int32) then
    some M81
  else
    bnd (sI M81 386 (258 : Int32)) fun M101 =>
    some (sI M101 388 ((gI M101 387) + (4 : Int32)))
def bX8_readNumber_7 (n0 : Nat) (k7 : Int32 → Int32 → Mem → Option (Mem)) (x1 : Int32) (x2 : Int32) (M : Mem) : Option (Mem) :=
  if (gI M 641) ≤ x2 then
    fX8_readNumber_72 n0 x1 M
  else
    (fX7_at n0 x2 M).bind fun z23 =>
    (fX8_isDigit n0 z23.1 z23.2).bind fun z26 =>
    if z26.1 = 0 then
      fX8_readNumber_72 n0 x1 z26.2
    else
      if (4 : Int32) ≤ (x2 - (gI z26.2 387)) then
        fX8_readNumber_59 n0 k7 x1 x2 z26.2
      else
        (fX7_at n0 x2 z26.2).bind fun z51 =>
        bnd ((((10 : Int32) * x1) + z51.1) - (48 : Int32)) fun x1_58 =>
        fX8_readNumber_59 n0 k7 x1_58 x2 z51.2
def fX8_readNumber_7 (n0 : Nat) : Int32 → Int32 → Mem → Option (Mem) := loopN (bX8_readNumber_7 n0) (fun _ _ _ => none) n0
def fX8_readNumber (n0 : Nat) (M : Mem) : Option (Mem) :=
  bnd (gI M 387) fun x2_6 =>
  fX8_readNumber_7 n0 (0 : Int32) x2_6 M
theorem tfX8_readNumber_59 (n0 : Nat) (hO : OKc p (rmL 2) s m args meth c LX D cy ad cX8_readNumber RX8 3 2 none) (k7 : Int32 → Int32 → Mem → Option (Mem)) (hk7 : ∀ (x1 : Int32) (x2 : Int32) (M : Mem), BL p l e (rmL 2) s m args below meth c LX D cy ad 3 (QV LX D cy ad) 7 [(0, .ref (ad 3)), (1, .int x1), (2, .int x2)] [] M (k7 x1 x2 M)) (x1 : Int32) (x2 : Int32) (M : Mem) : BL p l e (rmL 2) s m args below meth c LX D cy ad 3 (QV LX D cy ad) 59 [(0, .ref (ad 3)), (1, .int x1), (2, .int x2)] [] M (fX8_readNumber_59 n0 k7 x1 x2 M) := by
  unfold fX8_readNumber_59
  refine b_aload_n hO dX8_readNumber_59 0 rfl rfl ?_
  refine b_iload_n hO dX8_readNumber_60 2 rfl rfl ?_
  refine b_iconst hO dX8_readNumber_61 ic_i_1 ?_
  refine b_iadd hO dX8_readNumber_62 ?_
  refine b_putI hO flX8_28 kLX_3 rfl rfl rfl (id := 390) rfl dX8_readNumber_63 ?_
  refine b_bnd (fun M63 => ?_)
  refine b_iinc hO dX8_readNumber_66 2 rfl ic_i_1 (by decide) (lv' := [(2, .int _), (0, .ref _), (1, .int _)]) rfl ?_
  refine b_goto hO dX8_readNumber_69 (tgt := 7) (by decide) ?_
  refine b_sub [1, 2, 0] rfl ?_
  exact hk7 _ _ _
theorem tfX8_readNumber_72 (n0 : Nat) (hO : OKc p (rmL 2) s m args meth c LX D cy ad cX8_readNumber RX8 3 2 none) (x1 : Int32) (M : Mem) : BL p l e (rmL 2) s m args below meth c LX D cy ad 3 (QV LX D cy ad) 72 [(0, .ref (ad 3)), (1, .int x1)] [] M (fX8_readNumber_72 n0 x1 M) := by
  unfold fX8_readNumber_72
  refine b_aload_n hO dX8_readNumber_72 0 rfl rfl ?_
  refine b_iload_n hO dX8_readNumber_73 1 rfl rfl ?_
  refine b_putI hO flX8_25 kLX_3 rfl rfl rfl (id := 389) rfl dX8_readNumber_74 ?_
  refine b_bnd (fun M74 => ?_)
  refine b_aload_n hO dX8_readNumber_77 0 rfl rfl ?_
  refine b_sipush hO dX8_readNumber_78 ic_s_256 ?_
  refine b_putI hO flX8_15 kLX_3 rfl rfl rfl (id := 386) rfl dX8_readNumber_81 ?_
  refine b_bnd (fun M81 => ?_)
  refine b_aload_n hO dX8_readNumber_84 0 rfl rfl ?_
  refine b_get hO flX8_28 kLX_3 (v := .int (gI _ 390)) rfl dX8_readNumber_85 ?_
  refine b_aload_n hO dX8_readNumber_88 0 rfl rfl ?_
  refine b_get hO flX8_19 kLX_3 (v := .int (gI _ 387)) rfl dX8_readNumber_89 ?_
  refine b_isub hO dX8_readNumber_92 ?_
  refine b_iconst hO dX8_readNumber_93 ic_i_4 ?_
  refine b_icmp_le hO dX8_readNumber_94 (tgt := 114) (by decide) ?_ ?_
  · exact b_vret hO dX8_readNumber_114
  · refine b_aload_n hO dX8_readNumber_97 0 rfl rfl ?_
    refine b_sipush hO dX8_readNumber_98 ic_s_258 ?_
    refine b_putI hO flX8_15 kLX_3 rfl rfl rfl (id := 386) rfl dX8_readNumber_101 ?_
    refine b_bnd (fun M101 => ?_)
    refine b_aload_n hO dX8_readNumber_104 0 rfl rfl ?_
    refine b_aload_n hO dX8_readNumber_105 0 rfl rfl ?_
    refine b_get hO flX8_19 kLX_3 (v := .int (gI _ 387)) rfl dX8_readNumber_106 ?_
    refine b_iconst hO dX8_readNumber_109 ic_i_4 ?_
    refine b_iadd hO dX8_readNumber_110 ?_
    refine b_putI hO flX8_22 kLX_3 rfl rfl rfl (id := 388) rfl dX8_readNumber_111 ?_
    exact b_vret hO dX8_readNumber_114
theorem tbX8_readNumber_7 (n0 : Nat) (hO : OKc p (rmL 2) s m args meth c LX D cy ad cX8_readNumber RX8 3 2 none) (k7 : Int32 → Int32 → Mem → Option (Mem)) (hk7 : ∀ (x1 : Int32) (x2 : Int32) (M : Mem), BL p l e (rmL 2) s m args below meth c LX D cy ad 3 (QV LX D cy ad) 7 [(0, .ref (ad 3)), (1, .int x1), (2, .int x2)] [] M (k7 x1 x2 M)) (x1 : Int32) (x2 : Int32) (M : Mem) : BL p l e (rmL 2) s m args below meth c LX D cy ad 3 (QV LX D cy ad) 7 [(0, .ref (ad 3)), (1, .int x1), (2, .int x2)] [] M (bX8_readNumber_7 n0 k7 x1 x2 M) := by
  unfold bX8_readNumber_7
  refine b_iload_n hO dX8_readNumber_7 2 rfl rfl ?_
  refine b_aload_n hO dX8_readNumber_8 0 rfl rfl ?_
  refine b_get hO flX8_37 kLX_3 (v := .ref (ad 5)) rfl dX8_readNumber_9 ?_
  refine b_get hO flX8_93 kLX_5 (v := .int (gI _ 641)) rfl dX8_readNumber_12 ?_
  refine b_icmp_ge hO dX8_readNumber_15 (tgt := 72) (by decide) ?_ ?_
  · refine b_sub [0, 1] rfl ?_
    exact tfX8_readNumber_72 n0 hO _ _
  · refine b_aload_n hO dX8_readNumber_18 0 rfl rfl ?_
    refine b_get hO flX8_37 kLX_3 (v := .ref (ad 5)) rfl dX8_readNumber_19 ?_
    refine b_iload_n hO dX8_readNumber_22 2 rfl rfl ?_
    refine b_callVI hO mdX7_at mvX7_at w711 (ci := 7) rfl rfl (by decide) kLX_5 (As := [.int _]) (st := []) (ctX7_at n0 hO.2.2.2.2.2.2.1 _ _) (Nat.le_of_ble_eq_true rfl) rfl rfl (Nat.le_of_ble_eq_true rfl) dX8_readNumber_23 (fun z23 => ?_)
    refine b_callSI hO mdX8_isDigit w727 w726 (As := [.int _]) (st := []) (ctX8_isDigit n0 hO.2.2.2.2.2.2.1 _ _) (Nat.le_of_ble_eq_true rfl) rfl rfl (Nat.le_of_ble_eq_true rfl) dX8_readNumber_26 (fun z26 => ?_)
    refine b_if_eq hO dX8_readNumber_29 (tgt := 72) (by decide) ?_ ?_
    · refine b_sub [0, 1] rfl ?_
      exact tfX8_readNumber_72 n0 hO _ _
    · refine b_iload_n hO dX8_readNumber_32 2 rfl rfl ?_
      refine b_aload_n hO dX8_readNumber_33 0 rfl rfl ?_
      refine b_get hO flX8_19 kLX_3 (v := .int (gI _ 387)) rfl dX8_readNumber_34 ?_
      refine b_isub hO dX8_readNumber_37 ?_
      refine b_iconst hO dX8_readNumber_38 ic_i_4 ?_
      refine b_icmp_ge hO dX8_readNumber_39 (tgt := 59) (by decide) ?_ ?_
      · exact tfX8_readNumber_59 n0 hO k7 hk7 _ _ _
      · refine b_bipush hO dX8_readNumber_42 ic_b_10 ?_
        refine b_iload_n hO dX8_readNumber_44 1 rfl rfl ?_
        refine b_imul hO dX8_readNumber_45 ?_
        refine b_aload_n hO dX8_readNumber_46 0 rfl rfl ?_
        refine b_get hO flX8_37 kLX_3 (v := .ref (ad 5)) rfl dX8_readNumber_47 ?_
        refine b_iload_n hO dX8_readNumber_50 2 rfl rfl ?_
        refine b_callVI hO mdX7_at mvX7_at w711 (ci := 7) rfl rfl (by decide) kLX_5 (As := [.int _]) (st := [.int _]) (ctX7_at n0 hO.2.2.2.2.2.2.1 _ _) (Nat.le_of_ble_eq_true rfl) rfl rfl (Nat.le_of_ble_eq_true rfl) dX8_readNumber_51 (fun z51 => ?_)
        refine b_iadd hO dX8_readNumber_54 ?_
        refine b_bipush hO dX8_readNumber_55 ic_b_48 ?_
        refine b_isub hO dX8_readNumber_57 ?_
        refine b_topI (fun x1_58 => ?_)
        refine b_istore_n hO dX8_readNumber_58 rfl (by decide) (lv' := [(1, .int _), (0, .ref _), (2, .int _)]) rfl ?_
        refine b_sub [1, 0, 2] rfl ?_
        exact tfX8_readNumber_59 n0 hO k7 hk7 _ _ _
theorem lX8_readNumber_7 (n0 : Nat) (hO : OKc p (rmL 2) s m args meth c LX D cy ad cX8_readNumber RX8 3 2 none) : ∀ (w : Nat) (x1 : Int32) (x2 : Int32) (M : Mem), BL p l e (rmL 2) s m args below meth c LX D cy ad 3 (QV LX D cy ad) 7 [(0, .ref (ad 3)), (1, .int x1), (2, .int x2)] [] M (loopN (bX8_readNumber_7 n0) (fun _ _ _ => none) w x1 x2 M) := by
  intro w
  induction w with
  | zero =>
    intros
    exact b_none
  | succ w ih =>
    intro x1 x2 M
    exact tbX8_readNumber_7 n0 hO _ ih x1 x2 M
theorem tfX8_readNumber_7 (n0 : Nat) (hO : OKc p (rmL 2) s m args meth c LX D cy ad cX8_readNumber RX8 3 2 none) (x1 : Int32) (x2 : Int32) (M : Mem) : BL p l e (rmL 2) s m args below meth c LX D cy ad 3 (QV LX D cy ad) 7 [(0, .ref (ad 3)), (1, .int x1), (2, .int x2)] [] M (fX8_readNumber_7 n0 x1 x2 M) := lX8_readNumber_7 n0 hO n0 x1 x2 M
theorem tfX8_readNumber (n0 : Nat) (hO : OKc p (rmL 2) s m args meth c LX D cy ad cX8_readNumber RX8 3 2 none) (M : Mem) : BL p l e (rmL 2) s m args below meth c LX D cy ad 3 (QV LX D cy ad) 0 [(0, .ref (ad 3))] [] M (fX8_readNumber n0 M) := by
  unfold fX8_readNumber
  refine b_iconst hO dX8_readNumber_0 ic_i_0 ?_
  refine b_istore_n hO dX8_readNumber_1 rfl (by decide) (lv' := [(1, .int _), (0, .ref _)]) rfl ?_
  refine b_aload_n hO dX8_readNumber_2 1 rfl rfl ?_
  refine b_get hO flX8_19 kLX_3 (v := .int (gI _ 387)) rfl dX8_readNumber_3 ?_
  refine b_topI (fun x2_6 => ?_)
  refine b_istore_n hO dX8_readNumber_6 rfl (by decide) (lv' := [(2, .int _), (1, .int _), (0, .ref _)]) rfl ?_
  refine b_sub [2, 1, 0] rfl ?_
  exact tfX8_readNumber_7 n0 hO _ _ _
theorem ctX8_readNumber (n0 : Nat) (hI : Inj LX ad) (M : Mem) : CT l LX D cy ad yX8_readNumber cX8_readNumber 3 none 2 (QV LX D cy ad) [.ref (ad 3)] M (fX8_readNumber n0 M) :=
  CT.mk LXok hI (by decide) (Nat.le_of_ble_eq_true rfl) (fun hO => tfX8_readNumber n0 hO M)
/-! X8_advance -/
def fX8_advance_100 (n0 : Nat) (x1 : Int32) (x2 : Int32) (M : Mem) : Option (Mem) :=
  if x1 = 0 then
    some M
  else
    if (gI M 387) = x2 then
      (fX8_isWordOrNumber n0 M).bind fun z113 =>
      if z113.1 = 0 then
        some z113.2
      else
        bnd (sI z113.2 386 (258 : Int32)) fun M123 =>
        some (sI M123 388 (gI M123 387))
    else
      some M
def fX8_advance (n0 : Nat) (M : Mem) : Option (Mem) :=
  (fX8_isWordOrNumber n0 M).bind fun z1 =>
  bnd (gI z1.2 390) fun x2_9 =>
  (fX8_skipBlanks n0 z1.2).bind fun z11 =>
  bnd (sI z11 387 (gI z11 390)) fun M19 =>
  bnd (sI M19 388 (gI M19 390)) fun M27 =>
  (fX7_at n0 (gI M27 390) M27).bind fun z38 =>
  (fX8_isLetter n0 z38.1 z38.2).bind fun z43 =>
  if z43.1 = 0 then
    (fX8_isDigit n0 z38.1 z43.2).bind fun z57 =>
    if z57.1 = 0 then
      if z38.1 = (-1 : Int32) then
        fX8_advance_100 n0 z1.1 x2_9 (sI z57.2 386 (259 : Int32))
      else
        bnd (sI z57.2 386 z38.1) fun M87 =>
        fX8_advance_100 n0 z1.1 x2_9 (sI M87 390 ((gI M87 390) + (1 : Int32)))
    else
      (fX8_readNumber n0 z57.2).bind fun z64 =>
      fX8_advance_100 n0 z1.1 x2_9 z64
  else
    (fX8_readWord n0 z43.2).bind fun z50 =>
    fX8_advance_100 n0 z1.1 x2_9 z50
theorem tfX8_advance_100 (n0 : Nat) (hO : OKc p (rmL 3) s m args meth c LX D cy ad cX8_advance RX8 4 3 none) (x1 : Int32) (x2 : Int32) (M : Mem) : BL p l e (rmL 3) s m args below meth c LX D cy ad 4 (QV LX D cy ad) 100 [(0, .ref (ad 3)), (1, .int x1), (2, .int x2)] [] M (fX8_advance_100 n0 x1 x2 M) := by
  unfold fX8_advance_100
  refine b_iload_n hO dX8_advance_100 1 rfl rfl ?_
  refine b_if_eq hO dX8_advance_101 (tgt := 134) (by decide) ?_ ?_
  · exact b_vret hO dX8_advance_134
  · refine b_aload_n hO dX8_advance_104 0 rfl rfl ?_
    refine b_get hO flX8_19 kLX_3 (v := .int (gI _ 387)) rfl dX8_advance_105 ?_
    refine b_iload_n hO dX8_advance_108 2 rfl rfl ?_
    refine b_icmp_ne hO dX8_advance_109 (tgt := 134) (by decide) ?_ ?_
    · exact b_vret hO dX8_advance_134
    · refine b_aload_n hO dX8_advance_112 0 rfl rfl ?_
      refine b_callVI hO mdX8_isWordOrNumber mvX8_isWordOrNumber w703 (ci := 8) rfl rfl (by decide) kLX_3 (As := []) (st := []) (ctX8_isWordOrNumber n0 hO.2.2.2.2.2.2.1 _) (Nat.le_of_ble_eq_true rfl) rfl rfl (Nat.le_of_ble_eq_true rfl) dX8_advance_113 (fun z113 => ?_)
      refine b_if_eq hO dX8_advance_116 (tgt := 134) (by decide) ?_ ?_
      · exact b_vret hO dX8_advance_134
      · refine b_aload_n hO dX8_advance_119 0 rfl rfl ?_
        refine b_sipush hO dX8_advance_120 ic_s_258 ?_
        refine b_putI hO flX8_15 kLX_3 rfl rfl rfl (id := 386) rfl dX8_advance_123 ?_
        refine b_bnd (fun M123 => ?_)
        refine b_aload_n hO dX8_advance_126 0 rfl rfl ?_
        refine b_aload_n hO dX8_advance_127 0 rfl rfl ?_
        refine b_get hO flX8_19 kLX_3 (v := .int (gI _ 387)) rfl dX8_advance_128 ?_
        refine b_putI hO flX8_22 kLX_3 rfl rfl rfl (id := 388) rfl dX8_advance_131 ?_
        exact b_vret hO dX8_advance_134
theorem tfX8_advance (n0 : Nat) (hO : OKc p (rmL 3) s m args meth c LX D cy ad cX8_advance RX8 4 3 none) (M : Mem) : BL p l e (rmL 3) s m args below meth c LX D cy ad 4 (QV LX D cy ad) 0 [(0, .ref (ad 3))] [] M (fX8_advance n0 M) := by
  unfold fX8_advance
  refine b_aload_n hO dX8_advance_0 0 rfl rfl ?_
  refine b_callVI hO mdX8_isWordOrNumber mvX8_isWordOrNumber w703 (ci := 8) rfl rfl (by decide) kLX_3 (As := []) (st := []) (ctX8_isWordOrNumber n0 hO.2.2.2.2.2.2.1 _) (Nat.le_of_ble_eq_true rfl) rfl rfl (Nat.le_of_ble_eq_true rfl) dX8_advance_1 (fun z1 => ?_)
  refine b_istore_n hO dX8_advance_4 rfl (by decide) (lv' := [(1, .int _), (0, .ref _)]) rfl ?_
  refine b_aload_n hO dX8_advance_5 1 rfl rfl ?_
  refine b_get hO flX8_28 kLX_3 (v := .int (gI _ 390)) rfl dX8_advance_6 ?_
  refine b_topI (fun x2_9 => ?_)
  refine b_istore_n hO dX8_advance_9 rfl (by decide) (lv' := [(2, .int _), (1, .int _), (0, .ref _)]) rfl ?_
  refine b_aload_n hO dX8_advance_10 2 rfl rfl ?_
  refine b_callVV hO mdX8_skipBlanks mvX8_skipBlanks w707 (ci := 8) rfl rfl (by decide) kLX_3 (As := []) (st := []) (ctX8_skipBlanks n0 hO.2.2.2.2.2.2.1 _) (Nat.le_of_ble_eq_true rfl) rfl rfl (Nat.le_of_ble_eq_true rfl) dX8_advance_11 (fun z11 => ?_)
  refine b_aload_n hO dX8_advance_14 2 rfl rfl ?_
  refine b_aload_n hO dX8_advance_15 2 rfl rfl ?_
  refine b_get hO flX8_28 kLX_3 (v := .int (gI _ 390)) rfl dX8_advance_16 ?_
  refine b_putI hO flX8_19 kLX_3 rfl rfl rfl (id := 387) rfl dX8_advance_19 ?_
  refine b_bnd (fun M19 => ?_)
  refine b_aload_n hO dX8_advance_22 2 rfl rfl ?_
  refine b_aload_n hO dX8_advance_23 2 rfl rfl ?_
  refine b_get hO flX8_28 kLX_3 (v := .int (gI _ 390)) rfl dX8_advance_24 ?_
  refine b_putI hO flX8_22 kLX_3 rfl rfl rfl (id := 388) rfl dX8_advance_27 ?_
  refine b_bnd (fun M27 => ?_)
  refine b_aload_n hO dX8_advance_30 2 rfl rfl ?_
  refine b_get hO flX8_37 kLX_3 (v := .ref (ad 5)) rfl dX8_advance_31 ?_
  refine b_aload_n hO dX8_advance_34 2 rfl rfl ?_
  refine b_get hO flX8_28 kLX_3 (v := .int (gI _ 390)) rfl dX8_advance_35 ?_
  refine b_callVI hO mdX7_at mvX7_at w711 (ci := 7) rfl rfl (by decide) kLX_5 (As := [.int _]) (st := []) (ctX7_at n0 hO.2.2.2.2.2.2.1 _ _) (Nat.le_of_ble_eq_true rfl) rfl rfl (Nat.le_of_ble_eq_true rfl) dX8_advance_38 (fun z38 => ?_)
  refine b_istore_n hO dX8_advance_41 rfl (by decide) (lv' := [(3, .int _), (2, .int _), (1, .int _), (0, .ref _)]) rfl ?_
  refine b_iload_n hO dX8_advance_42 0 rfl rfl ?_
  refine b_callSI hO mdX8_isLetter w716 w715 (As := [.int _]) (st := []) (ctX8_isLetter n0 hO.2.2.2.2.2.2.1 _ _) (Nat.le_of_ble_eq_true rfl) rfl rfl (Nat.le_of_ble_eq_true rfl) dX8_advance_43 (fun z43 => ?_)
  refine b_if_eq hO dX8_advance_46 (tgt := 56) (by decide) ?_ ?_
  · refine b_iload_n hO dX8_advance_56 0 rfl rfl ?_
    refine b_callSI hO mdX8_isDigit w727 w726 (As := [.int _]) (st := []) (ctX8_isDigit n0 hO.2.2.2.2.2.2.1 _ _) (Nat.le_of_ble_eq_true rfl) rfl rfl (Nat.le_of_ble_eq_true rfl) dX8_advance_57 (fun z57 => ?_)
    refine b_if_eq hO dX8_advance_60 (tgt := 70) (by decide) ?_ ?_
    · refine b_iload_n hO dX8_advance_70 0 rfl rfl ?_
      refine b_iconst hO dX8_advance_71 ic_i_m1 ?_
      refine b_icmp_ne hO dX8_advance_72 (tgt := 85) (by decide) ?_ ?_
      · refine b_aload_n hO dX8_advance_85 3 rfl rfl ?_
        refine b_iload_n hO dX8_advance_86 0 rfl rfl ?_
        refine b_putI hO flX8_15 kLX_3 rfl rfl rfl (id := 386) rfl dX8_advance_87 ?_
        refine b_bnd (fun M87 => ?_)
        refine b_aload_n hO dX8_advance_90 3 rfl rfl ?_
        refine b_dup hO dX8_advance_91 rfl ?_
        refine b_get hO flX8_28 kLX_3 (v := .int (gI _ 390)) rfl dX8_advance_92 ?_
        refine b_iconst hO dX8_advance_95 ic_i_1 ?_
        refine b_iadd hO dX8_advance_96 ?_
        refine b_putI hO flX8_28 kLX_3 rfl rfl rfl (id := 390) rfl dX8_advance_97 ?_
        refine b_sub [3, 2, 1] rfl ?_
        exact tfX8_advance_100 n0 hO _ _ _
      · refine b_aload_n hO dX8_advance_75 3 rfl rfl ?_
        refine b_sipush hO dX8_advance_76 ic_s_259 ?_
        refine b_putI hO flX8_15 kLX_3 rfl rfl rfl (id := 386) rfl dX8_advance_79 ?_
        refine b_goto hO dX8_advance_82 (tgt := 100) (by decide) ?_
        refine b_sub [3, 2, 1] rfl ?_
        exact tfX8_advance_100 n0 hO _ _ _
    · refine b_aload_n hO dX8_advance_63 3 rfl rfl ?_
      refine b_callVV hO mdX8_readNumber mvX8_readNumber w729 (ci := 8) rfl rfl (by decide) kLX_3 (As := []) (st := []) (ctX8_readNumber n0 hO.2.2.2.2.2.2.1 _) (Nat.le_of_ble_eq_true rfl) rfl rfl (Nat.le_of_ble_eq_true rfl) dX8_advance_64 (fun z64 => ?_)
      refine b_goto hO dX8_advance_67 (tgt := 100) (by decide) ?_
      refine b_sub [3, 2, 1] rfl ?_
      exact tfX8_advance_100 n0 hO _ _ _
  · refine b_aload_n hO dX8_advance_49 3 rfl rfl ?_
    refine b_callVV hO mdX8_readWord mvX8_readWord w718 (ci := 8) rfl rfl (by decide) kLX_3 (As := []) (st := []) (ctX8_readWord n0 hO.2.2.2.2.2.2.1 _) (Nat.le_of_ble_eq_true rfl) rfl rfl (Nat.le_of_ble_eq_true rfl) dX8_advance_50 (fun z50 => ?_)
    refine b_goto hO dX8_advance_53 (tgt := 100) (by decide) ?_
    refine b_sub [3, 2, 1] rfl ?_
    exact tfX8_advance_100 n0 hO _ _ _
theorem ctX8_advance (n0 : Nat) (hI : Inj LX ad) (M : Mem) : CT l LX D cy ad yX8_advance cX8_advance 4 none 3 (QV LX D cy ad) [.ref (ad 3)] M (fX8_advance n0 M) :=
  CT.mk LXok hI (by decide) (Nat.le_of_ble_eq_true rfl) (fun hO => tfX8_advance n0 hO M)
/-! X8_begin -/
def fX8_begin (n0 : Nat) (M : Mem) : Option (Mem) :=
  bnd (sI M 391 (0 : Int32)) fun M2 =>
  bnd (sI M2 392 (-1 : Int32)) fun M7 =>
  bnd (sI M7 386 (259 : Int32)) fun M14 =>
  bnd (sI M14 390 (0 : Int32)) fun M19 =>
  (fX8_advance n0 M19).bind fun z23 =>
  some z23
theorem tfX8_begin (n0 : Nat) (hO : OKc p (rmL 4) s m args meth c LX D cy ad cX8_begin RX8 1 4 none) (M : Mem) : BL p l e (rmL 4) s m args below meth c LX D cy ad 1 (QV LX D cy ad) 0 [(0, .ref (ad 3))] [] M (fX8_begin n0 M) := by
  unfold fX8_begin
  refine b_aload_n hO dX8_begin_0 0 rfl rfl ?_
  refine b_iconst hO dX8_begin_1 ic_i_0 ?_
  refine b_putI hO flX8_31 kLX_3 rfl rfl rfl (id := 391) rfl dX8_begin_2 ?_
  refine b_bnd (fun M2 => ?_)
  refine b_aload_n hO dX8_begin_5 0 rfl rfl ?_
  refine b_iconst hO dX8_begin_6 ic_i_m1 ?_
  refine b_putI hO flX8_34 kLX_3 rfl rfl rfl (id := 392) rfl dX8_begin_7 ?_
  refine b_bnd (fun M7 => ?_)
  refine b_aload_n hO dX8_begin_10 0 rfl rfl ?_
  refine b_sipush hO dX8_begin_11 ic_s_259 ?_
  refine b_putI hO flX8_15 kLX_3 rfl rfl rfl (id := 386) rfl dX8_begin_14 ?_
  refine b_bnd (fun M14 => ?_)
  refine b_aload_n hO dX8_begin_17 0 rfl rfl ?_
  refine b_iconst hO dX8_begin_18 ic_i_0 ?_
  refine b_putI hO flX8_28 kLX_3 rfl rfl rfl (id := 390) rfl dX8_begin_19 ?_
  refine b_bnd (fun M19 => ?_)
  refine b_aload_n hO dX8_begin_22 0 rfl rfl ?_
  refine b_callVV hO mdX8_advance mvX8_advance w699 (ci := 8) rfl rfl (by decide) kLX_3 (As := []) (st := []) (ctX8_advance n0 hO.2.2.2.2.2.2.1 _) (Nat.le_of_ble_eq_true rfl) rfl rfl (Nat.le_of_ble_eq_true rfl) dX8_begin_23 (fun z23 => ?_)
  exact b_vret hO dX8_begin_26
theorem ctX8_begin (n0 : Nat) (hI : Inj LX ad) (M : Mem) : CT l LX D cy ad yX8_begin cX8_begin 1 none 4 (QV LX D cy ad) [.ref (ad 3)] M (fX8_begin n0 M) :=
  CT.mk LXok hI (by decide) (Nat.le_of_ble_eq_true rfl) (fun hO => tfX8_begin n0 hO M)
/-! X8_fail -/
def fX8_fail (n0 : Nat) (x1 : Int32) (x2 : Int32) (M : Mem) : Option (Int32 × Mem) :=
  bnd (sI M 391 x1) fun M2 =>
  bnd (sI M2 392 x2) fun M7 =>
  some ((0 : Int32), M7)
theorem tfX8_fail (n0 : Nat) (hO : OKc p (rmL 1) s m args meth c LX D cy ad cX8_fail RX8 3 1 (some .boolean)) (x1 : Int32) (x2 : Int32) (M : Mem) : BL p l e (rmL 1) s m args below meth c LX D cy ad 3 (QI LX D cy ad) 0 [(0, .ref (ad 3)), (1, .int x1), (2, .int x2)] [] M (fX8_fail n0 x1 x2 M) := by
  unfold fX8_fail
  refine b_aload_n hO dX8_fail_0 0 rfl rfl ?_
  refine b_iload_n hO dX8_fail_1 1 rfl rfl ?_
  refine b_putI hO flX8_31 kLX_3 rfl rfl rfl (id := 391) rfl dX8_fail_2 ?_
  refine b_bnd (fun M2 => ?_)
  refine b_aload_n hO dX8_fail_5 0 rfl rfl ?_
  refine b_iload_n hO dX8_fail_6 2 rfl rfl ?_
  refine b_putI hO flX8_34 kLX_3 rfl rfl rfl (id := 392) rfl dX8_fail_7 ?_
  refine b_bnd (fun M7 => ?_)
  refine b_iconst hO dX8_fail_10 ic_i_0 ?_
  exact b_zretc hO (Or.inl rfl) dX8_fail_11
theorem ctX8_fail (n0 : Nat) (hI : Inj LX ad) (x1 : Int32) (x2 : Int32) (M : Mem) : CT l LX D cy ad yX8_fail cX8_fail 3 (some .boolean) 1 (QI LX D cy ad) [.ref (ad 3), .int x1, .int x2] M (fX8_fail n0 x1 x2 M) :=
  CT.mk LXok hI (by decide) (Nat.le_of_ble_eq_true rfl) (fun hO => tfX8_fail n0 hO x1 x2 M)
/-! X8_failHere -/
def fX8_failHere (n0 : Nat) (M : Mem) : Option (Int32 × Mem) :=
  (fX8_fail n0 (1 : Int32) (gI M 388) M).bind fun z6 =>
  if z6.1 = 0 ∨ z6.1 = 1 then some (z6.1, z6.2) else none
theorem tfX8_failHere (n0 : Nat) (hO : OKc p (rmL 2) s m args meth c LX D cy ad cX8_failHere RX8 1 2 (some .boolean)) (M : Mem) : BL p l e (rmL 2) s m args below meth c LX D cy ad 1 (QI LX D cy ad) 0 [(0, .ref (ad 3))] [] M (fX8_failHere n0 M) := by
  unfold fX8_failHere
  refine b_aload_n hO dX8_failHere_0 0 rfl rfl ?_
  refine b_iconst hO dX8_failHere_1 ic_i_1 ?_
  refine b_aload_n hO dX8_failHere_2 0 rfl rfl ?_
  refine b_get hO flX8_22 kLX_3 (v := .int (gI _ 388)) rfl dX8_failHere_3 ?_
  refine b_callVI hO mdX8_fail mvX8_fail w758 (ci := 8) rfl rfl (by decide) kLX_3 (As := [.int _, .int _]) (st := []) (ctX8_fail n0 hO.2.2.2.2.2.2.1 _ _ _) (Nat.le_of_ble_eq_true rfl) rfl rfl (Nat.le_of_ble_eq_true rfl) dX8_failHere_6 (fun z6 => ?_)
  exact b_zret hO dX8_failHere_9
theorem ctX8_failHere (n0 : Nat) (hI : Inj LX ad) (M : Mem) : CT l LX D cy ad yX8_failHere cX8_failHere 1 (some .boolean) 2 (QI LX D cy ad) [.ref (ad 3)] M (fX8_failHere n0 M) :=
  CT.mk LXok hI (by decide) (Nat.le_of_ble_eq_true rfl) (fun hO => tfX8_failHere n0 hO M)
/-! X8_skip -/
def fX8_skip (n0 : Nat) (x1 : Int32) (M : Mem) : Option (Int32 × Mem) :=
  if (gI M 386) = x1 then
    (fX8_advance n0 M).bind fun z14 =>
    some ((1 : Int32), z14)
  else
    (fX8_failHere n0 M).bind fun z9 =>
    if z9.1 = 0 ∨ z9.1 = 1 then some (z9.1, z9.2) else none
theorem tfX8_skip (n0 : Nat) (hO : OKc p (rmL 4) s m args meth c LX D cy ad cX8_skip RX8 2 4 (some .boolean)) (x1 : Int32) (M : Mem) : BL p l e (rmL 4) s m args below meth c LX D cy ad 2 (QI LX D cy ad) 0 [(0, .ref (ad 3)), (1, .int x1)] [] M (fX8_skip n0 x1 M) := by
  unfold fX8_skip
  refine b_aload_n hO dX8_skip_0 0 rfl rfl ?_
  refine b_get hO flX8_15 kLX_3 (v := .int (gI _ 386)) rfl dX8_skip_1 ?_
  refine b_iload_n hO dX8_skip_4 1 rfl rfl ?_
  refine b_icmp_eq hO dX8_skip_5 (tgt := 13) (by decide) ?_ ?_
  · refine b_aload_n hO dX8_skip_13 0 rfl rfl ?_
    refine b_callVV hO mdX8_advance mvX8_advance w699 (ci := 8) rfl rfl (by decide) kLX_3 (As := []) (st := []) (ctX8_advance n0 hO.2.2.2.2.2.2.1 _) (Nat.le_of_ble_eq_true rfl) rfl rfl (Nat.le_of_ble_eq_true rfl) dX8_skip_14 (fun z14 => ?_)
    refine b_iconst hO dX8_skip_17 ic_i_1 ?_
    exact b_zretc hO (Or.inr rfl) dX8_skip_18
  · refine b_aload_n hO dX8_skip_8 0 rfl rfl ?_
    refine b_callVI hO mdX8_failHere mvX8_failHere w778 (ci := 8) rfl rfl (by decide) kLX_3 (As := []) (st := []) (ctX8_failHere n0 hO.2.2.2.2.2.2.1 _) (Nat.le_of_ble_eq_true rfl) rfl rfl (Nat.le_of_ble_eq_true rfl) dX8_skip_9 (fun z9 => ?_)
    exact b_zret hO dX8_skip_12
theorem ctX8_skip (n0 : Nat) (hI : Inj LX ad) (x1 : Int32) (M : Mem) : CT l LX D cy ad yX8_skip cX8_skip 2 (some .boolean) 4 (QI LX D cy ad) [.ref (ad 3), .int x1] M (fX8_skip n0 x1 M) :=
  CT.mk LXok hI (by decide) (Nat.le_of_ble_eq_true rfl) (fun hO => tfX8_skip n0 hO x1 M)
end
end
section
section
variable {p : Program} {l : Launch} {e : Env} {s : State} {m : MethodId} {args : Array Value} {below : List Frame} {meth : Method} {c : Code} {D : va_G} {cy : Nat → ClassId} {ad : Nat → Nat} {dd : Nat}

/-! X9_clear -/
def fX9_clear (n0 : Nat) (q0 : Nat) (M : Mem) : Option (Mem) :=
  bnd (sI M (128 * q0 + 0) (0 : Int32)) fun M2 =>
  bnd (sI M2 (128 * q0 + 1) (0 : Int32)) fun M7 =>
  bnd (sI M7 (128 * q0 + 5) (0 : Int32)) fun M12 =>
  bnd (sI M12 (128 * q0 + 8) (0 : Int32)) fun M17 =>
  bnd (sI M17 (128 * q0 + 12) (0 : Int32)) fun M22 =>
  bnd (sI M22 (128 * q0 + 16) (0 : Int32)) fun M27 =>
  bnd (sI M27 (128 * (q0 + 12) + 1) (0 : Int32)) fun M35 =>
  some (sI M35 (128 * (q0 + 14) + 1) (0 : Int32))
theorem tfX9_clear (n0 : Nat) (q0 : Nat) (hq0 : isK LX q0 9) (hO : OKc p (rmL 1) s m args meth c LX D cy ad cX9_clear RX9 1 1 none) (M : Mem) : BL p l e (rmL 1) s m args below meth c LX D cy ad 1 (QV LX D cy ad) 0 [(0, .ref (ad q0))] [] M (fX9_clear n0 q0 M) := by
  unfold fX9_clear
  refine b_aload_n hO dX9_clear_0 0 rfl rfl ?_
  refine b_iconst hO dX9_clear_1 ic_i_0 ?_
  refine b_putI hO flX9_9 hq0 rfl rfl rfl (id := (128 * q0 + 0)) rfl dX9_clear_2 ?_
  refine b_bnd (fun M2 => ?_)
  refine b_aload_n hO dX9_clear_5 0 rfl rfl ?_
  refine b_iconst hO dX9_clear_6 ic_i_0 ?_
  refine b_putI hO flX9_15 hq0 rfl rfl rfl (id := (128 * q0 + 1)) rfl dX9_clear_7 ?_
  refine b_bnd (fun M7 => ?_)
  refine b_aload_n hO dX9_clear_10 0 rfl rfl ?_
  refine b_iconst hO dX9_clear_11 ic_i_0 ?_
  refine b_putI hO flX9_28 hq0 rfl rfl rfl (id := (128 * q0 + 5)) rfl dX9_clear_12 ?_
  refine b_bnd (fun M12 => ?_)
  refine b_aload_n hO dX9_clear_15 0 rfl rfl ?_
  refine b_iconst hO dX9_clear_16 ic_i_0 ?_
  refine b_putI hO flX9_37 hq0 rfl rfl rfl (id := (128 * q0 + 8)) rfl dX9_clear_17 ?_
  refine b_bnd (fun M17 => ?_)
  refine b_aload_n hO dX9_clear_20 0 rfl rfl ?_
  refine b_iconst hO dX9_clear_21 ic_i_0 ?_
  refine b_putI hO flX9_49 hq0 rfl rfl rfl (id := (128 * q0 + 12)) rfl dX9_clear_22 ?_
  refine b_bnd (fun M22 => ?_)
  refine b_aload_n hO dX9_clear_25 0 rfl rfl ?_
  refine b_iconst hO dX9_clear_26 ic_i_0 ?_
  refine b_putI hO flX9_61 hq0 rfl rfl rfl (id := (128 * q0 + 16)) rfl dX9_clear_27 ?_
  refine b_bnd (fun M27 => ?_)
  refine b_aload_n hO dX9_clear_30 0 rfl rfl ?_
  refine b_get hO flX9_67 hq0 (v := .ref (ad (q0 + 12))) rfl dX9_clear_31 ?_
  refine b_iconst hO dX9_clear_34 ic_i_0 ?_
  refine b_putI hO flX9_74 (kt_9_12 hq0) rfl rfl rfl (id := (128 * (q0 + 12) + 1)) rfl dX9_clear_35 ?_
  refine b_bnd (fun M35 => ?_)
  refine b_aload_n hO dX9_clear_38 0 rfl rfl ?_
  refine b_get hO flX9_71 hq0 (v := .ref (ad (q0 + 14))) rfl dX9_clear_39 ?_
  refine b_iconst hO dX9_clear_42 ic_i_0 ?_
  refine b_putI hO flX9_74 (kt_9_14 hq0) rfl rfl rfl (id := (128 * (q0 + 14) + 1)) rfl dX9_clear_43 ?_
  exact b_vret hO dX9_clear_46
theorem ctX9_clear (n0 : Nat) (q0 : Nat) (hq0 : isK LX q0 9) (hI : Inj LX ad) (M : Mem) : CT l LX D cy ad yX9_clear cX9_clear 1 none 1 (QV LX D cy ad) [.ref (ad q0)] M (fX9_clear n0 q0 M) :=
  CT.mk LXok hI (by decide) (Nat.le_of_ble_eq_true rfl) (fun hO => tfX9_clear n0 q0 hq0 hO M)
/-! X9_isThing -/
def fX9_isThing (n0 : Nat) (q0 : Nat) (x1 : Int32) (M : Mem) : Option (Int32 × Mem) :=
  if x1 < 0 then
    some ((0 : Int32), M)
  else
    if (gI M (128 * q0 + 1)) ≤ x1 then
      some ((0 : Int32), M)
    else
      some ((1 : Int32), M)
theorem tfX9_isThing (n0 : Nat) (q0 : Nat) (hq0 : isK LX q0 9) (hO : OKc p (rmL 1) s m args meth c LX D cy ad cX9_isThing RX9 2 1 (some .boolean)) (x1 : Int32) (M : Mem) : BL p l e (rmL 1) s m args below meth c LX D cy ad 2 (QI LX D cy ad) 0 [(0, .ref (ad q0)), (1, .int x1)] [] M (fX9_isThing n0 q0 x1 M) := by
  unfold fX9_isThing
  refine b_iload_n hO dX9_isThing_0 1 rfl rfl ?_
  refine b_if_lt hO dX9_isThing_1 (tgt := 16) (by decide) ?_ ?_
  · refine b_iconst hO dX9_isThing_16 ic_i_0 ?_
    exact b_zretc hO (Or.inl rfl) dX9_isThing_17
  · refine b_iload_n hO dX9_isThing_4 1 rfl rfl ?_
    refine b_aload_n hO dX9_isThing_5 0 rfl rfl ?_
    refine b_get hO flX9_15 hq0 (v := .int (gI _ (128 * q0 + 1))) rfl dX9_isThing_6 ?_
    refine b_icmp_ge hO dX9_isThing_9 (tgt := 16) (by decide) ?_ ?_
    · refine b_iconst hO dX9_isThing_16 ic_i_0 ?_
      exact b_zretc hO (Or.inl rfl) dX9_isThing_17
    · refine b_iconst hO dX9_isThing_12 ic_i_1 ?_
      refine b_goto hO dX9_isThing_13 (tgt := 17) (by decide) ?_
      exact b_zretc hO (Or.inr rfl) dX9_isThing_17
theorem ctX9_isThing (n0 : Nat) (q0 : Nat) (hq0 : isK LX q0 9) (hI : Inj LX ad) (x1 : Int32) (M : Mem) : CT l LX D cy ad yX9_isThing cX9_isThing 2 (some .boolean) 1 (QI LX D cy ad) [.ref (ad q0), .int x1] M (fX9_isThing n0 q0 x1 M) :=
  CT.mk LXok hI (by decide) (Nat.le_of_ble_eq_true rfl) (fun hO => tfX9_isThing n0 q0 hq0 hO x1 M)
/-! X9_isCorner -/
def fX9_isCorner (n0 : Nat) (q0 : Nat) (x1 : Int32) (M : Mem) : Option (Int32 × Mem) :=
  if x1 < 0 then
    some ((0 : Int32), M)
  else
    if (gI M (128 * q0 + 5)) ≤ x1 then
      some ((0 : Int32), M)
    else
      some ((1 : Int32), M)
theorem tfX9_isCorner (n0 : Nat) (q0 : Nat) (hq0 : isK LX q0 9) (hO : OKc p (rmL 1) s m args meth c LX D cy ad cX9_isCorner RX9 2 1 (some .boolean)) (x1 : Int32) (M : Mem) : BL p l e (rmL 1) s m args below meth c LX D cy ad 2 (QI LX D cy ad) 0 [(0, .ref (ad q0)), (1, .int x1)] [] M (fX9_isCorner n0 q0 x1 M) := by
  unfold fX9_isCorner
  refine b_iload_n hO dX9_isCorner_0 1 rfl rfl ?_
  refine b_if_lt hO dX9_isCorner_1 (tgt := 16) (by decide) ?_ ?_
  · refine b_iconst hO dX9_isCorner_16 ic_i_0 ?_
    exact b_zretc hO (Or.inl rfl) dX9_isCorner_17
  · refine b_iload_n hO dX9_isCorner_4 1 rfl rfl ?_
    refine b_aload_n hO dX9_isCorner_5 0 rfl rfl ?_
    refine b_get hO flX9_28 hq0 (v := .int (gI _ (128 * q0 + 5))) rfl dX9_isCorner_6 ?_
    refine b_icmp_ge hO dX9_isCorner_9 (tgt := 16) (by decide) ?_ ?_
    · refine b_iconst hO dX9_isCorner_16 ic_i_0 ?_
      exact b_zretc hO (Or.inl rfl) dX9_isCorner_17
    · refine b_iconst hO dX9_isCorner_12 ic_i_1 ?_
      refine b_goto hO dX9_isCorner_13 (tgt := 17) (by decide) ?_
      exact b_zretc hO (Or.inr rfl) dX9_isCorner_17
theorem ctX9_isCorner (n0 : Nat) (q0 : Nat) (hq0 : isK LX q0 9) (hI : Inj LX ad) (x1 : Int32) (M : Mem) : CT l LX D cy ad yX9_isCorner cX9_isCorner 2 (some .boolean) 1 (QI LX D cy ad) [.ref (ad q0), .int x1] M (fX9_isCorner n0 q0 x1 M) :=
  CT.mk LXok hI (by decide) (Nat.le_of_ble_eq_true rfl) (fun hO => tfX9_isCorner n0 q0 hq0 hO x1 M)
/-! X9_isDoing -/
def fX9_isDoing (n0 : Nat) (q0 : Nat) (x1 : Int32) (M : Mem) : Option (Int32 × Mem) :=
  if x1 < 0 then
    some ((0 : Int32), M)
  else
    if (gI M (128 * q0 + 12)) ≤ x1 then
      some ((0 : Int32), M)
    else
      some ((1 : Int32), M)
theorem tfX9_isDoing (n0 : Nat) (q0 : Nat) (hq0 : isK LX q0 9) (hO : OKc p (rmL 1) s m args meth c LX D cy ad cX9_isDoing RX9 2 1 (some .boolean)) (x1 : Int32) (M : Mem) : BL p l e (rmL 1) s m args below meth c LX D cy ad 2 (QI LX D cy ad) 0 [(0, .ref (ad q0)), (1, .int x1)] [] M (fX9_isDoing n0 q0 x1 M) := by
  unfold fX9_isDoing
  refine b_iload_n hO dX9_isDoing_0 1 rfl rfl ?_
  refine b_if_lt hO dX9_isDoing_1 (tgt := 16) (by decide) ?_ ?_
  · refine b_iconst hO dX9_isDoing_16 ic_i_0 ?_
    exact b_zretc hO (Or.inl rfl) dX9_isDoing_17
  · refine b_iload_n hO dX9_isDoing_4 1 rfl rfl ?_
    refine b_aload_n hO dX9_isDoing_5 0 rfl rfl ?_
    refine b_get hO flX9_49 hq0 (v := .int (gI _ (128 * q0 + 12))) rfl dX9_isDoing_6 ?_
    refine b_icmp_ge hO dX9_isDoing_9 (tgt := 16) (by decide) ?_ ?_
    · refine b_iconst hO dX9_isDoing_16 ic_i_0 ?_
      exact b_zretc hO (Or.inl rfl) dX9_isDoing_17
    · refine b_iconst hO dX9_isDoing_12 ic_i_1 ?_
      refine b_goto hO dX9_isDoing_13 (tgt := 17) (by decide) ?_
      exact b_zretc hO (Or.inr rfl) dX9_isDoing_17
theorem ctX9_isDoing (n0 : Nat) (q0 : Nat) (hq0 : isK LX q0 9) (hI : Inj LX ad) (x1 : Int32) (M : Mem) : CT l LX D cy ad yX9_isDoing cX9_isDoing 2 (some .boolean) 1 (QI LX D cy ad) [.ref (ad q0), .int x1] M (fX9_isDoing n0 q0 x1 M) :=
  CT.mk LXok hI (by decide) (Nat.le_of_ble_eq_true rfl) (fun hO => tfX9_isDoing n0 q0 hq0 hO x1 M)
/-! X9_find -/
def bX9_find_2 (n0 : Nat) (q0 : Nat) (k2 : Int32 → Int32 → Int32 → Mem → Option (Int32 × Mem)) (x1 : Int32) (x2 : Int32) (x3 : Int32) (M : Mem) : Option (Int32 × Mem) :=
  if x1 ≤ x3 then
    some ((-1 : Int32), M)
  else
    if (Int32.ofNat (LX.ln q0)) ≤ x3 then
      some ((-1 : Int32), M)
    else
      if oob x3 (LX.ln q0) then none else
      if (gA M q0 (Int32.toNatClampNeg x3)) = x2 then
        some (x3, M)
      else
        k2 x1 x2 (x3 + (1 : Int32)) M
def fX9_find_2 (n0 : Nat) (q0 : Nat) : Int32 → Int32 → Int32 → Mem → Option (Int32 × Mem) := loopN (bX9_find_2 n0 q0) (fun _ _ _ _ => none) n0
def fX9_find (n0 : Nat) (q0 : Nat) (x1 : Int32) (x2 : Int32) (M : Mem) : Option (Int32 × Mem) :=
  fX9_find_2 n0 q0 x1 x2 (0 : Int32) M
theorem tbX9_find_2 (n0 : Nat) (q0 : Nat) (hq0 : isK LX q0 13) (hO : OKc p (rmL 1) s m args meth c LX D cy ad cX9_find RX9 4 1 (some .int)) (k2 : Int32 → Int32 → Int32 → Mem → Option (Int32 × Mem)) (hk2 : ∀ (x1 : Int32) (x2 : Int32) (x3 : Int32) (M : Mem), BL p l e (rmL 1) s m args below meth c LX D cy ad 4 (QI LX D cy ad) 2 [(0, .ref (ad q0)), (1, .int x1), (2, .int x2), (3, .int x3)] [] M (k2 x1 x2 x3 M)) (x1 : Int32) (x2 : Int32) (x3 : Int32) (M : Mem) : BL p l e (rmL 1) s m args below meth c LX D cy ad 4 (QI LX D cy ad) 2 [(0, .ref (ad q0)), (1, .int x1), (2, .int x2), (3, .int x3)] [] M (bX9_find_2 n0 q0 k2 x1 x2 x3 M) := by
  unfold bX9_find_2
  refine b_iload_n hO dX9_find_2 3 rfl rfl ?_
  refine b_iload_n hO dX9_find_3 1 rfl rfl ?_
  refine b_icmp_ge hO dX9_find_4 (tgt := 28) (by decide) ?_ ?_
  · refine b_iconst hO dX9_find_28 ic_i_m1 ?_
    exact b_iret hO dX9_find_29
  · refine b_iload_n hO dX9_find_7 3 rfl rfl ?_
    refine b_aload_n hO dX9_find_8 0 rfl rfl ?_
    refine b_alen hO hq0 rfl dX9_find_9 ?_
    refine b_icmp_ge hO dX9_find_10 (tgt := 28) (by decide) ?_ ?_
    · refine b_iconst hO dX9_find_28 ic_i_m1 ?_
      exact b_iret hO dX9_find_29
    · refine b_aload_n hO dX9_find_13 0 rfl rfl ?_
      refine b_iload_n hO dX9_find_14 3 rfl rfl ?_
      refine b_iald hO hq0 (n := (LX.ln q0)) rfl dX9_find_15 ?_
      refine b_iload_n hO dX9_find_16 2 rfl rfl ?_
      refine b_icmp_ne hO dX9_find_17 (tgt := 22) (by decide) ?_ ?_
      · refine b_iinc hO dX9_find_22 3 rfl ic_i_1 (by decide) (lv' := [(3, .int _), (0, .ref _), (1, .int _), (2, .int _)]) rfl ?_
        refine b_goto hO dX9_find_25 (tgt := 2) (by decide) ?_
        refine b_sub [1, 2, 3, 0] rfl ?_
        exact hk2 _ _ _ _
      · refine b_iload_n hO dX9_find_20 3 rfl rfl ?_
        exact b_iret hO dX9_find_21
theorem lX9_find_2 (n0 : Nat) (q0 : Nat) (hq0 : isK LX q0 13) (hO : OKc p (rmL 1) s m args meth c LX D cy ad cX9_find RX9 4 1 (some .int)) : ∀ (w : Nat) (x1 : Int32) (x2 : Int32) (x3 : Int32) (M : Mem), BL p l e (rmL 1) s m args below meth c LX D cy ad 4 (QI LX D cy ad) 2 [(0, .ref (ad q0)), (1, .int x1), (2, .int x2), (3, .int x3)] [] M (loopN (bX9_find_2 n0 q0) (fun _ _ _ _ => none) w x1 x2 x3 M) := by
  intro w
  induction w with
  | zero =>
    intros
    exact b_none
  | succ w ih =>
    intro x1 x2 x3 M
    exact tbX9_find_2 n0 q0 hq0 hO _ ih x1 x2 x3 M
theorem tfX9_find_2 (n0 : Nat) (q0 : Nat) (hq0 : isK LX q0 13) (hO : OKc p (rmL 1) s m args meth c LX D cy ad cX9_find RX9 4 1 (some .int)) (x1 : Int32) (x2 : Int32) (x3 : Int32) (M : Mem) : BL p l e (rmL 1) s m args below meth c LX D cy ad 4 (QI LX D cy ad) 2 [(0, .ref (ad q0)), (1, .int x1), (2, .int x2), (3, .int x3)] [] M (fX9_find_2 n0 q0 x1 x2 x3 M) := lX9_find_2 n0 q0 hq0 hO n0 x1 x2 x3 M
theorem tfX9_find (n0 : Nat) (q0 : Nat) (hq0 : isK LX q0 13) (hO : OKc p (rmL 1) s m args meth c LX D cy ad cX9_find RX9 4 1 (some .int)) (x1 : Int32) (x2 : Int32) (M : Mem) : BL p l e (rmL 1) s m args below meth c LX D cy ad 4 (QI LX D cy ad) 0 [(0, .ref (ad q0)), (1, .int x1), (2, .int x2)] [] M (fX9_find n0 q0 x1 x2 M) := by
  unfold fX9_find
  refine b_iconst hO dX9_find_0 ic_i_0 ?_
  refine b_istore_n hO dX9_find_1 rfl (by decide) (lv' := [(3, .int _), (0, .ref _), (1, .int _), (2, .int _)]) rfl ?_
  refine b_sub [1, 2, 3, 0] rfl ?_
  exact tfX9_find_2 n0 q0 hq0 hO _ _ _ _
theorem ctX9_find (n0 : Nat) (q0 : Nat) (hq0 : isK LX q0 13) (hI : Inj LX ad) (x1 : Int32) (x2 : Int32) (M : Mem) : CT l LX D cy ad yX9_find cX9_find 4 (some .int) 1 (QI LX D cy ad) [.ref (ad q0), .int x1, .int x2] M (fX9_find n0 q0 x1 x2 M) :=
  CT.mk LXok hI (by decide) (Nat.le_of_ble_eq_true rfl) (fun hO => tfX9_find n0 q0 hq0 hO x1 x2 M)
/-! X9_findThing -/
def fX9_findThing (n0 : Nat) (q0 : Nat) (x1 : Int32) (M : Mem) : Option (Int32 × Mem) :=
  (fX9_find n0 (q0 + 1) (gI M (128 * q0 + 1)) x1 M).bind fun z9 =>
  some (z9.1, z9.2)
theorem tfX9_findThing (n0 : Nat) (q0 : Nat) (hq0 : isK LX q0 9) (hO : OKc p (rmL 2) s m args meth c LX D cy ad cX9_findThing RX9 2 2 (some .int)) (x1 : Int32) (M : Mem) : BL p l e (rmL 2) s m args below meth c LX D cy ad 2 (QI LX D cy ad) 0 [(0, .ref (ad q0)), (1, .int x1)] [] M (fX9_findThing n0 q0 x1 M) := by
  unfold fX9_findThing
  refine b_aload_n hO dX9_findThing_0 0 rfl rfl ?_
  refine b_get hO flX9_18 hq0 (v := .ref (ad (q0 + 1))) rfl dX9_findThing_1 ?_
  refine b_aload_n hO dX9_findThing_4 0 rfl rfl ?_
  refine b_get hO flX9_15 hq0 (v := .int (gI _ (128 * q0 + 1))) rfl dX9_findThing_5 ?_
  refine b_iload_n hO dX9_findThing_8 1 rfl rfl ?_
  refine b_callSI hO mdX9_find w764 w763 (As := [.ref _, .int _, .int _]) (st := []) (ctX9_find n0 _ (kt_9_1 hq0) hO.2.2.2.2.2.2.1 _ _ _) (Nat.le_of_ble_eq_true rfl) rfl rfl (Nat.le_of_ble_eq_true rfl) dX9_findThing_9 (fun z9 => ?_)
  exact b_iret hO dX9_findThing_12
theorem ctX9_findThing (n0 : Nat) (q0 : Nat) (hq0 : isK LX q0 9) (hI : Inj LX ad) (x1 : Int32) (M : Mem) : CT l LX D cy ad yX9_findThing cX9_findThing 2 (some .int) 2 (QI LX D cy ad) [.ref (ad q0), .int x1] M (fX9_findThing n0 q0 x1 M) :=
  CT.mk LXok hI (by decide) (Nat.le_of_ble_eq_true rfl) (fun hO => tfX9_findThing n0 q0 hq0 hO x1 M)
/-! X9_findCorner -/
def fX9_findCorner (n0 : Nat) (q0 : Nat) (x1 : Int32) (M : Mem) : Option (Int32 × Mem) :=
  (fX9_find n0 (q0 + 4) (gI M (128 * q0 + 5)) x1 M).bind fun z9 =>
  some (z9.1, z9.2)
theorem tfX9_findCorner (n0 : Nat) (q0 : Nat) (hq0 : isK LX q0 9) (hO : OKc p (rmL 2) s m args meth c LX D cy ad cX9_findCorner RX9 2 2 (some .int)) (x1 : Int32) (M : Mem) : BL p l e (rmL 2) s m args below meth c LX D cy ad 2 (QI LX D cy ad) 0 [(0, .ref (ad q0)), (1, .int x1)] [] M (fX9_findCorner n0 q0 x1 M) := by
  unfold fX9_findCorner
  refine b_aload_n hO dX9_findCorner_0 0 rfl rfl ?_
  refine b_get hO flX9_31 hq0 (v := .ref (ad (q0 + 4))) rfl dX9_findCorner_1 ?_
  refine b_aload_n hO dX9_findCorner_4 0 rfl rfl ?_
  refine b_get hO flX9_28 hq0 (v := .int (gI _ (128 * q0 + 5))) rfl dX9_findCorner_5 ?_
  refine b_iload_n hO dX9_findCorner_8 1 rfl rfl ?_
  refine b_callSI hO mdX9_find w764 w763 (As := [.ref _, .int _, .int _]) (st := []) (ctX9_find n0 _ (kt_9_4 hq0) hO.2.2.2.2.2.2.1 _ _ _) (Nat.le_of_ble_eq_true rfl) rfl rfl (Nat.le_of_ble_eq_true rfl) dX9_findCorner_9 (fun z9 => ?_)
  exact b_iret hO dX9_findCorner_12
theorem ctX9_findCorner (n0 : Nat) (q0 : Nat) (hq0 : isK LX q0 9) (hI : Inj LX ad) (x1 : Int32) (M : Mem) : CT l LX D cy ad yX9_findCorner cX9_findCorner 2 (some .int) 2 (QI LX D cy ad) [.ref (ad q0), .int x1] M (fX9_findCorner n0 q0 x1 M) :=
  CT.mk LXok hI (by decide) (Nat.le_of_ble_eq_true rfl) (fun hO => tfX9_findCorner n0 q0 hq0 hO x1 M)
/-! X9_findDoing -/
def fX9_findDoing (n0 : Nat) (q0 : Nat) (x1 : Int32) (M : Mem) : Option (Int32 × Mem) :=
  (fX9_find n0 (q0 + 9) (gI M (128 * q0 + 12)) x1 M).bind fun z9 =>
  some (z9.1, z9.2)
theorem tfX9_findDoing (n0 : Nat) (q0 : Nat) (hq0 : isK LX q0 9) (hO : OKc p (rmL 2) s m args meth c LX D cy ad cX9_findDoing RX9 2 2 (some .int)) (x1 : Int32) (M : Mem) : BL p l e (rmL 2) s m args below meth c LX D cy ad 2 (QI LX D cy ad) 0 [(0, .ref (ad q0)), (1, .int x1)] [] M (fX9_findDoing n0 q0 x1 M) := by
  unfold fX9_findDoing
  refine b_aload_n hO dX9_findDoing_0 0 rfl rfl ?_
  refine b_get hO flX9_52 hq0 (v := .ref (ad (q0 + 9))) rfl dX9_findDoing_1 ?_
  refine b_aload_n hO dX9_findDoing_4 0 rfl rfl ?_
  refine b_get hO flX9_49 hq0 (v := .int (gI _ (128 * q0 + 12))) rfl dX9_findDoing_5 ?_
  refine b_iload_n hO dX9_findDoing_8 1 rfl rfl ?_
  refine b_callSI hO mdX9_find w764 w763 (As := [.ref _, .int _, .int _]) (st := []) (ctX9_find n0 _ (kt_9_9 hq0) hO.2.2.2.2.2.2.1 _ _ _) (Nat.le_of_ble_eq_true rfl) rfl rfl (Nat.le_of_ble_eq_true rfl) dX9_findDoing_9 (fun z9 => ?_)
  exact b_iret hO dX9_findDoing_12
theorem ctX9_findDoing (n0 : Nat) (q0 : Nat) (hq0 : isK LX q0 9) (hI : Inj LX ad) (x1 : Int32) (M : Mem) : CT l LX D cy ad yX9_findDoing cX9_findDoing 2 (some .int) 2 (QI LX D cy ad) [.ref (ad q0), .int x1] M (fX9_findDoing n0 q0 x1 M) :=
  CT.mk LXok hI (by decide) (Nat.le_of_ble_eq_true rfl) (fun hO => tfX9_findDoing n0 q0 hq0 hO x1 M)
/-! X9_hasRoad -/
def fX9_hasRoad_62 (n0 : Nat) (q0 : Nat) (k2 : Int32 → Int32 → Int32 → Mem → Option (Int32 × Mem)) (x1 : Int32) (x2 : Int32) (x3 : Int32) (x4 : Int32) (u0 : Int32) (M : Mem) : Option (Int32 × Mem) :=
  if x4 = 0 then
    if u0 = 0 then
      k2 x1 x2 (x3 + (1 : Int32)) M
    else
      some ((1 : Int32), M)
  else
    some ((1 : Int32), M)
def fX9_hasRoad_61 (n0 : Nat) (q0 : Nat) (k2 : Int32 → Int32 → Int32 → Mem → Option (Int32 × Mem)) (x1 : Int32) (x2 : Int32) (x3 : Int32) (x4 : Int32) (M : Mem) : Option (Int32 × Mem) :=
  fX9_hasRoad_62 n0 q0 k2 x1 x2 x3 x4 (0 : Int32) M
def fX9_hasRoad_35 (n0 : Nat) (q0 : Nat) (k2 : Int32 → Int32 → Int32 → Mem → Option (Int32 × Mem)) (x1 : Int32) (x2 : Int32) (x3 : Int32) (u0 : Int32) (M : Mem) : Option (Int32 × Mem) :=
  if oob x3 10 then none else
  if (gA M (q0 + 6) (Int32.toNatClampNeg x3)) = x2 then
    if oob x3 10 then none else
    if (gA M (q0 + 7) (Int32.toNatClampNeg x3)) = x1 then
      fX9_hasRoad_62 n0 q0 k2 x1 x2 x3 u0 (1 : Int32) M
    else
      fX9_hasRoad_61 n0 q0 k2 x1 x2 x3 u0 M
  else
    fX9_hasRoad_61 n0 q0 k2 x1 x2 x3 u0 M
def fX9_hasRoad_34 (n0 : Nat) (q0 : Nat) (k2 : Int32 → Int32 → Int32 → Mem → Option (Int32 × Mem)) (x1 : Int32) (x2 : Int32) (x3 : Int32) (M : Mem) : Option (Int32 × Mem) :=
  fX9_hasRoad_35 n0 q0 k2 x1 x2 x3 (0 : Int32) M
def bX9_hasRoad_2 (n0 : Nat) (q0 : Nat) (k2 : Int32 → Int32 → Int32 → Mem → Option (Int32 × Mem)) (x1 : Int32) (x2 : Int32) (x3 : Int32) (M : Mem) : Option (Int32 × Mem) :=
  if (gI M (128 * q0 + 8)) ≤ x3 then
    some ((0 : Int32), M)
  else
    if oob x3 10 then none else
    if (gA M (q0 + 6) (Int32.toNatClampNeg x3)) = x1 then
      if oob x3 10 then none else
      if (gA M (q0 + 7) (Int32.toNatClampNeg x3)) = x2 then
        fX9_hasRoad_35 n0 q0 k2 x1 x2 x3 (1 : Int32) M
      else
        fX9_hasRoad_34 n0 q0 k2 x1 x2 x3 M
    else
      fX9_hasRoad_34 n0 q0 k2 x1 x2 x3 M
def fX9_hasRoad_2 (n0 : Nat) (q0 : Nat) : Int32 → Int32 → Int32 → Mem → Option (Int32 × Mem) := loopN (bX9_hasRoad_2 n0 q0) (fun _ _ _ _ => none) n0
def fX9_hasRoad (n0 : Nat) (q0 : Nat) (x1 : Int32) (x2 : Int32) (M : Mem) : Option (Int32 × Mem) :=
  fX9_hasRoad_2 n0 q0 x1 x2 (0 : Int32) M
theorem tfX9_hasRoad_62 (n0 : Nat) (q0 : Nat) (hq0 : isK LX q0 9) (hO : OKc p (rmL 1) s m args meth c LX D cy ad cX9_hasRoad RX9 6 1 (some .boolean)) (k2 : Int32 → Int32 → Int32 → Mem → Option (Int32 × Mem)) (hk2 : ∀ (x1 : Int32) (x2 : Int32) (x3 : Int32) (M : Mem), BL p l e (rmL 1) s m args below meth c LX D cy ad 6 (QI LX D cy ad) 2 [(0, .ref (ad q0)), (1, .int x1), (2, .int x2), (3, .int x3)] [] M (k2 x1 x2 x3 M)) (x1 : Int32) (x2 : Int32) (x3 : Int32) (x4 : Int32) (u0 : Int32) (M : Mem) : BL p l e (rmL 1) s m args below meth c LX D cy ad 6 (QI LX D cy ad) 62 [(0, .ref (ad q0)), (1, .int x1), (2, .int x2), (3, .int x3), (4, .int x4)] [.int u0] M (fX9_hasRoad_62 n0 q0 k2 x1 x2 x3 x4 u0 M) := by
  unfold fX9_hasRoad_62
  refine b_istore hO dX9_hasRoad_62 (by decide) (lv' := [(5, .int _), (0, .ref _), (1, .int _), (2, .int _), (3, .int _), (4, .int _)]) rfl ?_
  refine b_iload hO dX9_hasRoad_64 5 rfl ?_
  refine b_if_ne hO dX9_hasRoad_66 (tgt := 74) (by decide) ?_ ?_
  · refine b_iconst hO dX9_hasRoad_74 ic_i_1 ?_
    exact b_zretc hO (Or.inr rfl) dX9_hasRoad_75
  · refine b_iload hO dX9_hasRoad_69 0 rfl ?_
    refine b_if_eq hO dX9_hasRoad_71 (tgt := 76) (by decide) ?_ ?_
    · refine b_iinc hO dX9_hasRoad_76 4 rfl ic_i_1 (by decide) (lv' := [(3, .int _), (5, .int _), (0, .ref _), (1, .int _), (2, .int _), (4, .int _)]) rfl ?_
      refine b_goto hO dX9_hasRoad_79 (tgt := 2) (by decide) ?_
      refine b_sub [2, 3, 4, 0] rfl ?_
      exact hk2 _ _ _ _
    · refine b_iconst hO dX9_hasRoad_74 ic_i_1 ?_
      exact b_zretc hO (Or.inr rfl) dX9_hasRoad_75
theorem tfX9_hasRoad_61 (n0 : Nat) (q0 : Nat) (hq0 : isK LX q0 9) (hO : OKc p (rmL 1) s m args meth c LX D cy ad cX9_hasRoad RX9 6 1 (some .boolean)) (k2 : Int32 → Int32 → Int32 → Mem → Option (Int32 × Mem)) (hk2 : ∀ (x1 : Int32) (x2 : Int32) (x3 : Int32) (M : Mem), BL p l e (rmL 1) s m args below meth c LX D cy ad 6 (QI LX D cy ad) 2 [(0, .ref (ad q0)), (1, .int x1), (2, .int x2), (3, .int x3)] [] M (k2 x1 x2 x3 M)) (x1 : Int32) (x2 : Int32) (x3 : Int32) (x4 : Int32) (M : Mem) : BL p l e (rmL 1) s m args below meth c LX D cy ad 6 (QI LX D cy ad) 61 [(0, .ref (ad q0)), (1, .int x1), (2, .int x2), (3, .int x3), (4, .int x4)] [] M (fX9_hasRoad_61 n0 q0 k2 x1 x2 x3 x4 M) := by
  unfold fX9_hasRoad_61
  refine b_iconst hO dX9_hasRoad_61 ic_i_0 ?_
  exact tfX9_hasRoad_62 n0 q0 hq0 hO k2 hk2 _ _ _ _ _ _
theorem tfX9_hasRoad_35 (n0 : Nat) (q0 : Nat) (hq0 : isK LX q0 9) (hO : OKc p (rmL 1) s m args meth c LX D cy ad cX9_hasRoad RX9 6 1 (some .boolean)) (k2 : Int32 → Int32 → Int32 → Mem → Option (Int32 × Mem)) (hk2 : ∀ (x1 : Int32) (x2 : Int32) (x3 : Int32) (M : Mem), BL p l e (rmL 1) s m args below meth c LX D cy ad 6 (QI LX D cy ad) 2 [(0, .ref (ad q0)), (1, .int x1), (2, .int x2), (3, .int x3)] [] M (k2 x1 x2 x3 M)) (x1 : Int32) (x2 : Int32) (x3 : Int32) (u0 : Int32) (M : Mem) : BL p l e (rmL 1) s m args below meth c LX D cy ad 6 (QI LX D cy ad) 35 [(0, .ref (ad q0)), (1, .int x1), (2, .int x2), (3, .int x3)] [.int u0] M (fX9_hasRoad_35 n0 q0 k2 x1 x2 x3 u0 M) := by
  unfold fX9_hasRoad_35
  refine b_istore hO dX9_hasRoad_35 (by decide) (lv' := [(4, .int _), (0, .ref _), (1, .int _), (2, .int _), (3, .int _)]) rfl ?_
  refine b_aload_n hO dX9_hasRoad_37 1 rfl rfl ?_
  refine b_get hO flX9_40 hq0 (v := .ref (ad (q0 + 6))) rfl dX9_hasRoad_38 ?_
  refine b_iload_n hO dX9_hasRoad_41 4 rfl rfl ?_
  refine b_iald hO (kt_9_6 hq0) (n := 10) (lt_9_6 hq0) dX9_hasRoad_42 ?_
  refine b_iload_n hO dX9_hasRoad_43 3 rfl rfl ?_
  refine b_icmp_ne hO dX9_hasRoad_44 (tgt := 61) (by decide) ?_ ?_
  · refine b_sub [1, 2, 3, 4, 0] rfl ?_
    exact tfX9_hasRoad_61 n0 q0 hq0 hO k2 hk2 _ _ _ _ _
  · refine b_aload_n hO dX9_hasRoad_47 1 rfl rfl ?_
    refine b_get hO flX9_43 hq0 (v := .ref (ad (q0 + 7))) rfl dX9_hasRoad_48 ?_
    refine b_iload_n hO dX9_hasRoad_51 4 rfl rfl ?_
    refine b_iald hO (kt_9_7 hq0) (n := 10) (lt_9_7 hq0) dX9_hasRoad_52 ?_
    refine b_iload_n hO dX9_hasRoad_53 2 rfl rfl ?_
    refine b_icmp_ne hO dX9_hasRoad_54 (tgt := 61) (by decide) ?_ ?_
    · refine b_sub [1, 2, 3, 4, 0] rfl ?_
      exact tfX9_hasRoad_61 n0 q0 hq0 hO k2 hk2 _ _ _ _ _
    · refine b_iconst hO dX9_hasRoad_57 ic_i_1 ?_
      refine b_goto hO dX9_hasRoad_58 (tgt := 62) (by decide) ?_
      refine b_sub [1, 2, 3, 4, 0] rfl ?_
      exact tfX9_hasRoad_62 n0 q0 hq0 hO k2 hk2 _ _ _ _ _ _
theorem tfX9_hasRoad_34 (n0 : Nat) (q0 : Nat) (hq0 : isK LX q0 9) (hO : OKc p (rmL 1) s m args meth c LX D cy ad cX9_hasRoad RX9 6 1 (some .boolean)) (k2 : Int32 → Int32 → Int32 → Mem → Option (Int32 × Mem)) (hk2 : ∀ (x1 : Int32) (x2 : Int32) (x3 : Int32) (M : Mem), BL p l e (rmL 1) s m args below meth c LX D cy ad 6 (QI LX D cy ad) 2 [(0, .ref (ad q0)), (1, .int x1), (2, .int x2), (3, .int x3)] [] M (k2 x1 x2 x3 M)) (x1 : Int32) (x2 : Int32) (x3 : Int32) (M : Mem) : BL p l e (rmL 1) s m args below meth c LX D cy ad 6 (QI LX D cy ad) 34 [(0, .ref (ad q0)), (1, .int x1), (2, .int x2), (3, .int x3)] [] M (fX9_hasRoad_34 n0 q0 k2 x1 x2 x3 M) := by
  unfold fX9_hasRoad_34
  refine b_iconst hO dX9_hasRoad_34 ic_i_0 ?_
  exact tfX9_hasRoad_35 n0 q0 hq0 hO k2 hk2 _ _ _ _ _
theorem tbX9_hasRoad_2 (n0 : Nat) (q0 : Nat) (hq0 : isK LX q0 9) (hO : OKc p (rmL 1) s m args meth c LX D cy ad cX9_hasRoad RX9 6 1 (some .boolean)) (k2 : Int32 → Int32 → Int32 → Mem → Option (Int32 × Mem)) (hk2 : ∀ (x1 : Int32) (x2 : Int32) (x3 : Int32) (M : Mem), BL p l e (rmL 1) s m args below meth c LX D cy ad 6 (QI LX D cy ad) 2 [(0, .ref (ad q0)), (1, .int x1), (2, .int x2), (3, .int x3)] [] M (k2 x1 x2 x3 M)) (x1 : Int32) (x2 : Int32) (x3 : Int32) (M : Mem) : BL p l e (rmL 1) s m args below meth c LX D cy ad 6 (QI LX D cy ad) 2 [(0, .ref (ad q0)), (1, .int x1), (2, .int x2), (3, .int x3)] [] M (bX9_hasRoad_2 n0 q0 k2 x1 x2 x3 M) := by
  unfold bX9_hasRoad_2
  refine b_iload_n hO dX9_hasRoad_2 3 rfl rfl ?_
  refine b_aload_n hO dX9_hasRoad_3 0 rfl rfl ?_
  refine b_get hO flX9_37 hq0 (v := .int (gI _ (128 * q0 + 8))) rfl dX9_hasRoad_4 ?_
  refine b_icmp_ge hO dX9_hasRoad_7 (tgt := 82) (by decide) ?_ ?_
  · refine b_iconst hO dX9_hasRoad_82 ic_i_0 ?_
    exact b_zretc hO (Or.inl rfl) dX9_hasRoad_83
  · refine b_aload_n hO dX9_hasRoad_10 0 rfl rfl ?_
    refine b_get hO flX9_40 hq0 (v := .ref (ad (q0 + 6))) rfl dX9_hasRoad_11 ?_
    refine b_iload_n hO dX9_hasRoad_14 3 rfl rfl ?_
    refine b_iald hO (kt_9_6 hq0) (n := 10) (lt_9_6 hq0) dX9_hasRoad_15 ?_
    refine b_iload_n hO dX9_hasRoad_16 1 rfl rfl ?_
    refine b_icmp_ne hO dX9_hasRoad_17 (tgt := 34) (by decide) ?_ ?_
    · exact tfX9_hasRoad_34 n0 q0 hq0 hO k2 hk2 _ _ _ _
    · refine b_aload_n hO dX9_hasRoad_20 0 rfl rfl ?_
      refine b_get hO flX9_43 hq0 (v := .ref (ad (q0 + 7))) rfl dX9_hasRoad_21 ?_
      refine b_iload_n hO dX9_hasRoad_24 3 rfl rfl ?_
      refine b_iald hO (kt_9_7 hq0) (n := 10) (lt_9_7 hq0) dX9_hasRoad_25 ?_
      refine b_iload_n hO dX9_hasRoad_26 2 rfl rfl ?_
      refine b_icmp_ne hO dX9_hasRoad_27 (tgt := 34) (by decide) ?_ ?_
      · exact tfX9_hasRoad_34 n0 q0 hq0 hO k2 hk2 _ _ _ _
      · refine b_iconst hO dX9_hasRoad_30 ic_i_1 ?_
        refine b_goto hO dX9_hasRoad_31 (tgt := 35) (by decide) ?_
        exact tfX9_hasRoad_35 n0 q0 hq0 hO k2 hk2 _ _ _ _ _
theorem lX9_hasRoad_2 (n0 : Nat) (q0 : Nat) (hq0 : isK LX q0 9) (hO : OKc p (rmL 1) s m args meth c LX D cy ad cX9_hasRoad RX9 6 1 (some .boolean)) : ∀ (w : Nat) (x1 : Int32) (x2 : Int32) (x3 : Int32) (M : Mem), BL p l e (rmL 1) s m args below meth c LX D cy ad 6 (QI LX D cy ad) 2 [(0, .ref (ad q0)), (1, .int x1), (2, .int x2), (3, .int x3)] [] M (loopN (bX9_hasRoad_2 n0 q0) (fun _ _ _ _ => none) w x1 x2 x3 M) := by
  intro w
  induction w with
  | zero =>
    intros
    exact b_none
  | succ w ih =>
    intro x1 x2 x3 M
    exact tbX9_hasRoad_2 n0 q0 hq0 hO _ ih x1 x2 x3 M
theorem tfX9_hasRoad_2 (n0 : Nat) (q0 : Nat) (hq0 : isK LX q0 9) (hO : OKc p (rmL 1) s m args meth c LX D cy ad cX9_hasRoad RX9 6 1 (some .boolean)) (x1 : Int32) (x2 : Int32) (x3 : Int32) (M : Mem) : BL p l e (rmL 1) s m args below meth c LX D cy ad 6 (QI LX D cy ad) 2 [(0, .ref (ad q0)), (1, .int x1), (2, .int x2), (3, .int x3)] [] M (fX9_hasRoad_2 n0 q0 x1 x2 x3 M) := lX9_hasRoad_2 n0 q0 hq0 hO n0 x1 x2 x3 M
theorem tfX9_hasRoad (n0 : Nat) (q0 : Nat) (hq0 : isK LX q0 9) (hO : OKc p (rmL 1) s m args meth c LX D cy ad cX9_hasRoad RX9 6 1 (some .boolean)) (x1 : Int32) (x2 : Int32) (M : Mem) : BL p l e (rmL 1) s m args below meth c LX D cy ad 6 (QI LX D cy ad) 0 [(0, .ref (ad q0)), (1, .int x1), (2, .int x2)] [] M (fX9_hasRoad n0 q0 x1 x2 M) := by
  unfold fX9_hasRoad
  refine b_iconst hO dX9_hasRoad_0 ic_i_0 ?_
  refine b_istore_n hO dX9_hasRoad_1 rfl (by decide) (lv' := [(3, .int _), (0, .ref _), (1, .int _), (2, .int _)]) rfl ?_
  refine b_sub [1, 2, 3, 0] rfl ?_
  exact tfX9_hasRoad_2 n0 q0 hq0 hO _ _ _ _
theorem ctX9_hasRoad (n0 : Nat) (q0 : Nat) (hq0 : isK LX q0 9) (hI : Inj LX ad) (x1 : Int32) (x2 : Int32) (M : Mem) : CT l LX D cy ad yX9_hasRoad cX9_hasRoad 6 (some .boolean) 1 (QI LX D cy ad) [.ref (ad q0), .int x1, .int x2] M (fX9_hasRoad n0 q0 x1 x2 M) :=
  CT.mk LXok hI (by decide) (Nat.le_of_ble_eq_true rfl) (fun hO => tfX9_hasRoad n0 q0 hq0 hO x1 x2 M)
/-! X9_addThing -/
def fX9_addThing (n0 : Nat) (q0 : Nat) (x1 : Int32) (x2 : Int32) (x3 : Int32) (M : Mem) : Option (Mem) :=
  if (6 : Int32) ≤ (gI M (128 * q0 + 1)) then
    some M
  else
    if oob (gI M (128 * q0 + 1)) 6 then none else
    bnd (sA M (q0 + 1) (Int32.toNatClampNeg (gI M (128 * q0 + 1))) x1) fun M18 =>
    if oob (gI M18 (128 * q0 + 1)) 6 then none else
    bnd (sA M18 (q0 + 2) (Int32.toNatClampNeg (gI M18 (128 * q0 + 1))) x2) fun M28 =>
    if oob (gI M28 (128 * q0 + 1)) 6 then none else
    bnd (sA M28 (q0 + 3) (Int32.toNatClampNeg (gI M28 (128 * q0 + 1))) x3) fun M38 =>
    some (sI M38 (128 * q0 + 1) ((gI M38 (128 * q0 + 1)) + (1 : Int32)))
theorem tfX9_addThing (n0 : Nat) (q0 : Nat) (hq0 : isK LX q0 9) (hO : OKc p (rmL 1) s m args meth c LX D cy ad cX9_addThing RX9 4 1 none) (x1 : Int32) (x2 : Int32) (x3 : Int32) (M : Mem) : BL p l e (rmL 1) s m args below meth c LX D cy ad 4 (QV LX D cy ad) 0 [(0, .ref (ad q0)), (1, .int x1), (2, .int x2), (3, .int x3)] [] M (fX9_addThing n0 q0 x1 x2 x3 M) := by
  unfold fX9_addThing
  refine b_aload_n hO dX9_addThing_0 0 rfl rfl ?_
  refine b_get hO flX9_15 hq0 (v := .int (gI _ (128 * q0 + 1))) rfl dX9_addThing_1 ?_
  refine b_bipush hO dX9_addThing_4 ic_b_6 ?_
  refine b_icmp_ge hO dX9_addThing_6 (tgt := 49) (by decide) ?_ ?_
  · exact b_vret hO dX9_addThing_49
  · refine b_aload_n hO dX9_addThing_9 0 rfl rfl ?_
    refine b_get hO flX9_18 hq0 (v := .ref (ad (q0 + 1))) rfl dX9_addThing_10 ?_
    refine b_aload_n hO dX9_addThing_13 0 rfl rfl ?_
    refine b_get hO flX9_15 hq0 (v := .int (gI _ (128 * q0 + 1))) rfl dX9_addThing_14 ?_
    refine b_iload_n hO dX9_addThing_17 1 rfl rfl ?_
    refine b_iast hO (kt_9_1 hq0) (n := 6) (lt_9_1 hq0) dX9_addThing_18 ?_
    refine b_bnd (fun M18 => ?_)
    refine b_aload_n hO dX9_addThing_19 0 rfl rfl ?_
    refine b_get hO flX9_22 hq0 (v := .ref (ad (q0 + 2))) rfl dX9_addThing_20 ?_
    refine b_aload_n hO dX9_addThing_23 0 rfl rfl ?_
    refine b_get hO flX9_15 hq0 (v := .int (gI _ (128 * q0 + 1))) rfl dX9_addThing_24 ?_
    refine b_iload_n hO dX9_addThing_27 2 rfl rfl ?_
    refine b_iast hO (kt_9_2 hq0) (n := 6) (lt_9_2 hq0) dX9_addThing_28 ?_
    refine b_bnd (fun M28 => ?_)
    refine b_aload_n hO dX9_addThing_29 0 rfl rfl ?_
    refine b_get hO flX9_25 hq0 (v := .ref (ad (q0 + 3))) rfl dX9_addThing_30 ?_
    refine b_aload_n hO dX9_addThing_33 0 rfl rfl ?_
    refine b_get hO flX9_15 hq0 (v := .int (gI _ (128 * q0 + 1))) rfl dX9_addThing_34 ?_
    refine b_iload_n hO dX9_addThing_37 3 rfl rfl ?_
    refine b_iast hO (kt_9_3 hq0) (n := 6) (lt_9_3 hq0) dX9_addThing_38 ?_
    refine b_bnd (fun M38 => ?_)
    refine b_aload_n hO dX9_addThing_39 0 rfl rfl ?_
    refine b_dup hO dX9_addThing_40 rfl ?_
    refine b_get hO flX9_15 hq0 (v := .int (gI _ (128 * q0 + 1))) rfl dX9_addThing_41 ?_
    refine b_iconst hO dX9_addThing_44 ic_i_1 ?_
    refine b_iadd hO dX9_addThing_45 ?_
    refine b_putI hO flX9_15 hq0 rfl rfl rfl (id := (128 * q0 + 1)) rfl dX9_addThing_46 ?_
    exact b_vret hO dX9_addThing_49
theorem ctX9_addThing (n0 : Nat) (q0 : Nat) (hq0 : isK LX q0 9) (hI : Inj LX ad) (x1 : Int32) (x2 : Int32) (x3 : Int32) (M : Mem) : CT l LX D cy ad yX9_addThing cX9_addThing 4 none 1 (QV LX D cy ad) [.ref (ad q0), .int x1, .int x2, .int x3] M (fX9_addThing n0 q0 x1 x2 x3 M) :=
  CT.mk LXok hI (by decide) (Nat.le_of_ble_eq_true rfl) (fun hO => tfX9_addThing n0 q0 hq0 hO x1 x2 x3 M)
/-! X9_addCorner -/
def fX9_addCorner (n0 : Nat) (q0 : Nat) (x1 : Int32) (M : Mem) : Option (Mem) :=
  if (5 : Int32) ≤ (gI M (128 * q0 + 5)) then
    some M
  else
    if oob (gI M (128 * q0 + 5)) 5 then none else
    bnd (sA M (q0 + 4) (Int32.toNatClampNeg (gI M (128 * q0 + 5))) x1) fun M17 =>
    if oob (gI M17 (128 * q0 + 5)) 5 then none else
    bnd (sA M17 (q0 + 5) (Int32.toNatClampNeg (gI M17 (128 * q0 + 5))) (-1 : Int32)) fun M27 =>
    some (sI M27 (128 * q0 + 5) ((gI M27 (128 * q0 + 5)) + (1 : Int32)))
theorem tfX9_addCorner (n0 : Nat) (q0 : Nat) (hq0 : isK LX q0 9) (hO : OKc p (rmL 1) s m args meth c LX D cy ad cX9_addCorner RX9 2 1 none) (x1 : Int32) (M : Mem) : BL p l e (rmL 1) s m args below meth c LX D cy ad 2 (QV LX D cy ad) 0 [(0, .ref (ad q0)), (1, .int x1)] [] M (fX9_addCorner n0 q0 x1 M) := by
  unfold fX9_addCorner
  refine b_aload_n hO dX9_addCorner_0 0 rfl rfl ?_
  refine b_get hO flX9_28 hq0 (v := .int (gI _ (128 * q0 + 5))) rfl dX9_addCorner_1 ?_
  refine b_iconst hO dX9_addCorner_4 ic_i_5 ?_
  refine b_icmp_ge hO dX9_addCorner_5 (tgt := 38) (by decide) ?_ ?_
  · exact b_vret hO dX9_addCorner_38
  · refine b_aload_n hO dX9_addCorner_8 0 rfl rfl ?_
    refine b_get hO flX9_31 hq0 (v := .ref (ad (q0 + 4))) rfl dX9_addCorner_9 ?_
    refine b_aload_n hO dX9_addCorner_12 0 rfl rfl ?_
    refine b_get hO flX9_28 hq0 (v := .int (gI _ (128 * q0 + 5))) rfl dX9_addCorner_13 ?_
    refine b_iload_n hO dX9_addCorner_16 1 rfl rfl ?_
    refine b_iast hO (kt_9_4 hq0) (n := 5) (lt_9_4 hq0) dX9_addCorner_17 ?_
    refine b_bnd (fun M17 => ?_)
    refine b_aload_n hO dX9_addCorner_18 0 rfl rfl ?_
    refine b_get hO flX9_34 hq0 (v := .ref (ad (q0 + 5))) rfl dX9_addCorner_19 ?_
    refine b_aload_n hO dX9_addCorner_22 0 rfl rfl ?_
    refine b_get hO flX9_28 hq0 (v := .int (gI _ (128 * q0 + 5))) rfl dX9_addCorner_23 ?_
    refine b_iconst hO dX9_addCorner_26 ic_i_m1 ?_
    refine b_iast hO (kt_9_5 hq0) (n := 5) (lt_9_5 hq0) dX9_addCorner_27 ?_
    refine b_bnd (fun M27 => ?_)
    refine b_aload_n hO dX9_addCorner_28 0 rfl rfl ?_
    refine b_dup hO dX9_addCorner_29 rfl ?_
    refine b_get hO flX9_28 hq0 (v := .int (gI _ (128 * q0 + 5))) rfl dX9_addCorner_30 ?_
    refine b_iconst hO dX9_addCorner_33 ic_i_1 ?_
    refine b_iadd hO dX9_addCorner_34 ?_
    refine b_putI hO flX9_28 hq0 rfl rfl rfl (id := (128 * q0 + 5)) rfl dX9_addCorner_35 ?_
    exact b_vret hO dX9_addCorner_38
theorem ctX9_addCorner (n0 : Nat) (q0 : Nat) (hq0 : isK LX q0 9) (hI : Inj LX ad) (x1 : Int32) (M : Mem) : CT l LX D cy ad yX9_addCorner cX9_addCorner 2 none 1 (QV LX D cy ad) [.ref (ad q0), .int x1] M (fX9_addCorner n0 q0 x1 M) :=
  CT.mk LXok hI (by decide) (Nat.le_of_ble_eq_true rfl) (fun hO => tfX9_addCorner n0 q0 hq0 hO x1 M)
/-! X9_addRoad -/
def fX9_addRoad (n0 : Nat) (q0 : Nat) (x1 : Int32) (x2 : Int32) (x3 : Int32) (M : Mem) : Option (Mem) :=
  if (10 : Int32) ≤ (gI M (128 * q0 + 8)) then
    some M
  else
    if oob (gI M (128 * q0 + 8)) 10 then none else
    bnd (sA M (q0 + 6) (Int32.toNatClampNeg (gI M (128 * q0 + 8))) x1) fun M18 =>
    if oob (gI M18 (128 * q0 + 8)) 10 then none else
    bnd (sA M18 (q0 + 7) (Int32.toNatClampNeg (gI M18 (128 * q0 + 8))) x2) fun M28 =>
    if oob (gI M28 (128 * q0 + 8)) 10 then none else
    bnd (sA M28 (q0 + 8) (Int32.toNatClampNeg (gI M28 (128 * q0 + 8))) x3) fun M38 =>
    some (sI M38 (128 * q0 + 8) ((gI M38 (128 * q0 + 8)) + (1 : Int32)))
theorem tfX9_addRoad (n0 : Nat) (q0 : Nat) (hq0 : isK LX q0 9) (hO : OKc p (rmL 1) s m args meth c LX D cy ad cX9_addRoad RX9 4 1 none) (x1 : Int32) (x2 : Int32) (x3 : Int32) (M : Mem) : BL p l e (rmL 1) s m args below meth c LX D cy ad 4 (QV LX D cy ad) 0 [(0, .ref (ad q0)), (1, .int x1), (2, .int x2), (3, .int x3)] [] M (fX9_addRoad n0 q0 x1 x2 x3 M) := by
  unfold fX9_addRoad
  refine b_aload_n hO dX9_addRoad_0 0 rfl rfl ?_
  refine b_get hO flX9_37 hq0 (v := .int (gI _ (128 * q0 + 8))) rfl dX9_addRoad_1 ?_
  refine b_bipush hO dX9_addRoad_4 ic_b_10 ?_
  refine b_icmp_ge hO dX9_addRoad_6 (tgt := 49) (by decide) ?_ ?_
  · exact b_vret hO dX9_addRoad_49
  · refine b_aload_n hO dX9_addRoad_9 0 rfl rfl ?_
    refine b_get hO flX9_40 hq0 (v := .ref (ad (q0 + 6))) rfl dX9_addRoad_10 ?_
    refine b_aload_n hO dX9_addRoad_13 0 rfl rfl ?_
    refine b_get hO flX9_37 hq0 (v := .int (gI _ (128 * q0 + 8))) rfl dX9_addRoad_14 ?_
    refine b_iload_n hO dX9_addRoad_17 1 rfl rfl ?_
    refine b_iast hO (kt_9_6 hq0) (n := 10) (lt_9_6 hq0) dX9_addRoad_18 ?_
    refine b_bnd (fun M18 => ?_)
    refine b_aload_n hO dX9_addRoad_19 0 rfl rfl ?_
    refine b_get hO flX9_43 hq0 (v := .ref (ad (q0 + 7))) rfl dX9_addRoad_20 ?_
    refine b_aload_n hO dX9_addRoad_23 0 rfl rfl ?_
    refine b_get hO flX9_37 hq0 (v := .int (gI _ (128 * q0 + 8))) rfl dX9_addRoad_24 ?_
    refine b_iload_n hO dX9_addRoad_27 2 rfl rfl ?_
    refine b_iast hO (kt_9_7 hq0) (n := 10) (lt_9_7 hq0) dX9_addRoad_28 ?_
    refine b_bnd (fun M28 => ?_)
    refine b_aload_n hO dX9_addRoad_29 0 rfl rfl ?_
    refine b_get hO flX9_46 hq0 (v := .ref (ad (q0 + 8))) rfl dX9_addRoad_30 ?_
    refine b_aload_n hO dX9_addRoad_33 0 rfl rfl ?_
    refine b_get hO flX9_37 hq0 (v := .int (gI _ (128 * q0 + 8))) rfl dX9_addRoad_34 ?_
    refine b_iload_n hO dX9_addRoad_37 3 rfl rfl ?_
    refine b_iast hO (kt_9_8 hq0) (n := 10) (lt_9_8 hq0) dX9_addRoad_38 ?_
    refine b_bnd (fun M38 => ?_)
    refine b_aload_n hO dX9_addRoad_39 0 rfl rfl ?_
    refine b_dup hO dX9_addRoad_40 rfl ?_
    refine b_get hO flX9_37 hq0 (v := .int (gI _ (128 * q0 + 8))) rfl dX9_addRoad_41 ?_
    refine b_iconst hO dX9_addRoad_44 ic_i_1 ?_
    refine b_iadd hO dX9_addRoad_45 ?_
    refine b_putI hO flX9_37 hq0 rfl rfl rfl (id := (128 * q0 + 8)) rfl dX9_addRoad_46 ?_
    exact b_vret hO dX9_addRoad_49
theorem ctX9_addRoad (n0 : Nat) (q0 : Nat) (hq0 : isK LX q0 9) (hI : Inj LX ad) (x1 : Int32) (x2 : Int32) (x3 : Int32) (M : Mem) : CT l LX D cy ad yX9_addRoad cX9_addRoad 4 none 1 (QV LX D cy ad) [.ref (ad q0), .int x1, .int x2, .int x3] M (fX9_addRoad n0 q0 x1 x2 x3 M) :=
  CT.mk LXok hI (by decide) (Nat.le_of_ble_eq_true rfl) (fun hO => tfX9_addRoad n0 q0 hq0 hO x1 x2 x3 M)
/-! X9_addDoing -/
def fX9_addDoing (n0 : Nat) (q0 : Nat) (x1 : Int32) (x2 : Int32) (x3 : Int32) (M : Mem) : Option (Mem) :=
  if (6 : Int32) ≤ (gI M (128 * q0 + 12)) then
    some M
  else
    if oob (gI M (128 * q0 + 12)) 6 then none else
    bnd (sA M (q0 + 9) (Int32.toNatClampNeg (gI M (128 * q0 + 12))) x1) fun M18 =>
    if oob (gI M18 (128 * q0 + 12)) 6 then none else
    bnd (sA M18 (q0 + 10) (Int32.toNatClampNeg (gI M18 (128 * q0 + 12))) x2) fun M28 =>
    if oob (gI M28 (128 * q0 + 12)) 6 then none else
    bnd (sA M28 (q0 + 11) (Int32.toNatClampNeg (gI M28 (128 * q0 + 12))) x3) fun M38 =>
    some (sI M38 (128 * q0 + 12) ((gI M38 (128 * q0 + 12)) + (1 : Int32)))
theorem tfX9_addDoing (n0 : Nat) (q0 : Nat) (hq0 : isK LX q0 9) (hO : OKc p (rmL 1) s m args meth c LX D cy ad cX9_addDoing RX9 4 1 none) (x1 : Int32) (x2 : Int32) (x3 : Int32) (M : Mem) : BL p l e (rmL 1) s m args below meth c LX D cy ad 4 (QV LX D cy ad) 0 [(0, .ref (ad q0)), (1, .int x1), (2, .int x2), (3, .int x3)] [] M (fX9_addDoing n0 q0 x1 x2 x3 M) := by
  unfold fX9_addDoing
  refine b_aload_n hO dX9_addDoing_0 0 rfl rfl ?_
  refine b_get hO flX9_49 hq0 (v := .int (gI _ (128 * q0 + 12))) rfl dX9_addDoing_1 ?_
  refine b_bipush hO dX9_addDoing_4 ic_b_6 ?_
  refine b_icmp_ge hO dX9_addDoing_6 (tgt := 49) (by decide) ?_ ?_
  · exact b_vret hO dX9_addDoing_49
  · refine b_aload_n hO dX9_addDoing_9 0 rfl rfl ?_
    refine b_get hO flX9_52 hq0 (v := .ref (ad (q0 + 9))) rfl dX9_addDoing_10 ?_
    refine b_aload_n hO dX9_addDoing_13 0 rfl rfl ?_
    refine b_get hO flX9_49 hq0 (v := .int (gI _ (128 * q0 + 12))) rfl dX9_addDoing_14 ?_
    refine b_iload_n hO dX9_addDoing_17 1 rfl rfl ?_
    refine b_iast hO (kt_9_9 hq0) (n := 6) (lt_9_9 hq0) dX9_addDoing_18 ?_
    refine b_bnd (fun M18 => ?_)
    refine b_aload_n hO dX9_addDoing_19 0 rfl rfl ?_
    refine b_get hO flX9_55 hq0 (v := .ref (ad (q0 + 10))) rfl dX9_addDoing_20 ?_
    refine b_aload_n hO dX9_addDoing_23 0 rfl rfl ?_
    refine b_get hO flX9_49 hq0 (v := .int (gI _ (128 * q0 + 12))) rfl dX9_addDoing_24 ?_
    refine b_iload_n hO dX9_addDoing_27 2 rfl rfl ?_
    refine b_iast hO (kt_9_10 hq0) (n := 6) (lt_9_10 hq0) dX9_addDoing_28 ?_
    refine b_bnd (fun M28 => ?_)
    refine b_aload_n hO dX9_addDoing_29 0 rfl rfl ?_
    refine b_get hO flX9_58 hq0 (v := .ref (ad (q0 + 11))) rfl dX9_addDoing_30 ?_
    refine b_aload_n hO dX9_addDoing_33 0 rfl rfl ?_
    refine b_get hO flX9_49 hq0 (v := .int (gI _ (128 * q0 + 12))) rfl dX9_addDoing_34 ?_
    refine b_iload_n hO dX9_addDoing_37 3 rfl rfl ?_
    refine b_iast hO (kt_9_11 hq0) (n := 6) (lt_9_11 hq0) dX9_addDoing_38 ?_
    refine b_bnd (fun M38 => ?_)
    refine b_aload_n hO dX9_addDoing_39 0 rfl rfl ?_
    refine b_dup hO dX9_addDoing_40 rfl ?_
    refine b_get hO flX9_49 hq0 (v := .int (gI _ (128 * q0 + 12))) rfl dX9_addDoing_41 ?_
    refine b_iconst hO dX9_addDoing_44 ic_i_1 ?_
    refine b_iadd hO dX9_addDoing_45 ?_
    refine b_putI hO flX9_49 hq0 rfl rfl rfl (id := (128 * q0 + 12)) rfl dX9_addDoing_46 ?_
    exact b_vret hO dX9_addDoing_49
theorem ctX9_addDoing (n0 : Nat) (q0 : Nat) (hq0 : isK LX q0 9) (hI : Inj LX ad) (x1 : Int32) (x2 : Int32) (x3 : Int32) (M : Mem) : CT l LX D cy ad yX9_addDoing cX9_addDoing 4 none 1 (QV LX D cy ad) [.ref (ad q0), .int x1, .int x2, .int x3] M (fX9_addDoing n0 q0 x1 x2 x3 M) :=
  CT.mk LXok hI (by decide) (Nat.le_of_ble_eq_true rfl) (fun hO => tfX9_addDoing n0 q0 hq0 hO x1 x2 x3 M)
end
end
section
section
variable {p : Program} {l : Launch} {e : Env} {s : State} {m : MethodId} {args : Array Value} {below : List Frame} {meth : Method} {c : Code} {D : va_G} {cy : Nat → ClassId} {ad : Nat → Nat} {dd : Nat}

/-! X1_hold -/
def fX1_hold (n0 : Nat) (x1 : Int32) (x2 : Int32) (x3 : Int32) (x4 : Int32) (M : Mem) : Option (Mem) :=
  bnd (sI M 897 x1) fun M2 =>
  bnd (sI M2 898 x2) fun M7 =>
  bnd (sI M7 899 x3) fun M12 =>
  some (sI M12 900 x4)
theorem tfX1_hold (n0 : Nat) (hO : OKc p (rmL 1) s m args meth c LX D cy ad cX1_hold RX1 5 1 none) (x1 : Int32) (x2 : Int32) (x3 : Int32) (x4 : Int32) (M : Mem) : BL p l e (rmL 1) s m args below meth c LX D cy ad 5 (QV LX D cy ad) 0 [(0, .ref (ad 7)), (1, .int x1), (2, .int x2), (3, .int x3), (4, .int x4)] [] M (fX1_hold n0 x1 x2 x3 x4 M) := by
  unfold fX1_hold
  refine b_aload_n hO dX1_hold_0 0 rfl rfl ?_
  refine b_iload_n hO dX1_hold_1 1 rfl rfl ?_
  refine b_putI hO flX1_9 kLX_7 rfl rfl rfl (id := 897) rfl dX1_hold_2 ?_
  refine b_bnd (fun M2 => ?_)
  refine b_aload_n hO dX1_hold_5 0 rfl rfl ?_
  refine b_iload_n hO dX1_hold_6 2 rfl rfl ?_
  refine b_putI hO flX1_15 kLX_7 rfl rfl rfl (id := 898) rfl dX1_hold_7 ?_
  refine b_bnd (fun M7 => ?_)
  refine b_aload_n hO dX1_hold_10 0 rfl rfl ?_
  refine b_iload_n hO dX1_hold_11 3 rfl rfl ?_
  refine b_putI hO flX1_18 kLX_7 rfl rfl rfl (id := 899) rfl dX1_hold_12 ?_
  refine b_bnd (fun M12 => ?_)
  refine b_aload_n hO dX1_hold_15 0 rfl rfl ?_
  refine b_iload hO dX1_hold_16 4 rfl ?_
  refine b_putI hO flX1_21 kLX_7 rfl rfl rfl (id := 900) rfl dX1_hold_18 ?_
  exact b_vret hO dX1_hold_21
theorem ctX1_hold (n0 : Nat) (hI : Inj LX ad) (x1 : Int32) (x2 : Int32) (x3 : Int32) (x4 : Int32) (M : Mem) : CT l LX D cy ad yX1_hold cX1_hold 5 none 1 (QV LX D cy ad) [.ref (ad 7), .int x1, .int x2, .int x3, .int x4] M (fX1_hold n0 x1 x2 x3 x4 M) :=
  CT.mk LXok hI (by decide) (Nat.le_of_ble_eq_true rfl) (fun hO => tfX1_hold n0 hO x1 x2 x3 x4 M)
/-! X1_join -/
def fX1_join_332 (n0 : Nat) (x3 : Int32) (y6 : Int64) (M : Mem) : Option (Mem) :=
  if oob x3 64 then none else
  some (sA M 9 (Int32.toNatClampNeg x3) ((lmax (-1000000 : Int64) (lmin (1000000 : Int64) y6))).toInt32)
def fX1_join_181 (n0 : Nat) (x3 : Int32) (v0 : Int64) (M : Mem) : Option (Mem) :=
  fX1_join_332 n0 x3 v0 M
def fX1_join_203 (n0 : Nat) (x3 : Int32) (v0 : Int64) (M : Mem) : Option (Mem) :=
  fX1_join_332 n0 x3 v0 M
def fX1_join_254 (n0 : Nat) (x3 : Int32) (v0 : Int64) (M : Mem) : Option (Mem) :=
  fX1_join_332 n0 x3 v0 M
def fX1_join_271 (n0 : Nat) (x3 : Int32) (v0 : Int64) (M : Mem) : Option (Mem) :=
  fX1_join_332 n0 x3 v0 M
def fX1_join_288 (n0 : Nat) (x3 : Int32) (v0 : Int64) (M : Mem) : Option (Mem) :=
  fX1_join_332 n0 x3 v0 M
def fX1_join_305 (n0 : Nat) (x3 : Int32) (v0 : Int64) (M : Mem) : Option (Mem) :=
  fX1_join_332 n0 x3 v0 M
def fX1_join_11 (n0 : Nat) (x1 : Int32) (u0 : Int32) (M : Mem) : Option (Mem) :=
  if u0 ≤ (gI M 903) then
    bnd (sI M 903 ((gI M 903) - (u0 - (1 : Int32)))) fun M30 =>
    bnd ((gI M30 903) - (1 : Int32)) fun x3_39 =>
    if oob x3_39 64 then none else
    bnd (gA M30 9 (Int32.toNatClampNeg x3_39)) fun x4_46 =>
    if oob (x3_39 + (1 : Int32)) 64 then none else
    bnd (gA M30 9 (Int32.toNatClampNeg (x3_39 + (1 : Int32)))) fun x5_56 =>
    if x1 = (-19 : Int32) then
      bnd ((x4_46 ||| x5_56)).toInt64 fun y6_327 =>
      fX1_join_332 n0 x3_39 y6_327 M30
    else
    if x1 = (-18 : Int32) then
      bnd ((x4_46 &&& x5_56)).toInt64 fun y6_316 =>
      fX1_join_332 n0 x3_39 y6_316 M30
    else
    if x1 = (-17 : Int32) then
      if x4_46 = x5_56 then
        fX1_join_305 n0 x3_39 (1 : Int64) M30
      else
        fX1_join_305 n0 x3_39 (0 : Int64) M30
    else
    if x1 = (-16 : Int32) then
      if x4_46 ≤ x5_56 then
        fX1_join_288 n0 x3_39 (0 : Int64) M30
      else
        fX1_join_288 n0 x3_39 (1 : Int64) M30
    else
    if x1 = (-15 : Int32) then
      if x5_56 ≤ x4_46 then
        fX1_join_271 n0 x3_39 (0 : Int64) M30
      else
        fX1_join_271 n0 x3_39 (1 : Int64) M30
    else
    if x1 = (-14 : Int32) then
      if x4_46 = 0 then
        if oob (x3_39 + (2 : Int32)) 64 then none else
        fX1_join_254 n0 x3_39 ((gA M30 9 (Int32.toNatClampNeg (x3_39 + (2 : Int32))))).toInt64 M30
      else
        fX1_join_254 n0 x3_39 (x5_56).toInt64 M30
    else
    if x1 = (-13 : Int32) then
      bnd ((imax x4_46 x5_56)).toInt64 fun y6_229 =>
      fX1_join_332 n0 x3_39 y6_229 M30
    else
    if x1 = (-12 : Int32) then
      bnd ((imin x4_46 x5_56)).toInt64 fun y6_216 =>
      fX1_join_332 n0 x3_39 y6_216 M30
    else
    if x1 = (-11 : Int32) then
      if x5_56 = 0 then
        fX1_join_203 n0 x3_39 (0 : Int64) M30
      else
        (fJ9_floorMod_7cf53 n0 x4_46 x5_56 M30).bind fun z199 =>
        fX1_join_203 n0 x3_39 (z199.1).toInt64 z199.2
    else
    if x1 = (-10 : Int32) then
      if x5_56 = 0 then
        fX1_join_181 n0 x3_39 (0 : Int64) M30
      else
        (fJ9_floorDiv_7cf53 n0 x4_46 x5_56 M30).bind fun z177 =>
        fX1_join_181 n0 x3_39 (z177.1).toInt64 z177.2
    else
    if x1 = (-9 : Int32) then
      bnd ((x4_46).toInt64 * (x5_56).toInt64) fun y6_159 =>
      fX1_join_332 n0 x3_39 y6_159 M30
    else
    if x1 = (-8 : Int32) then
      bnd ((x4_46).toInt64 - (x5_56).toInt64) fun y6_147 =>
      fX1_join_332 n0 x3_39 y6_147 M30
    else
    if x1 = (-7 : Int32) then
      bnd ((x4_46).toInt64 + (x5_56).toInt64) fun y6_135 =>
      fX1_join_332 n0 x3_39 y6_135 M30
    else
    fX1_join_332 n0 x3_39 (0 : Int64) M30
  else
    some M
def fX1_join (n0 : Nat) (x1 : Int32) (M : Mem) : Option (Mem) :=
  if x1 = (-14 : Int32) then
    fX1_join_11 n0 x1 (3 : Int32) M
  else
    fX1_join_11 n0 x1 (2 : Int32) M
theorem tfX1_join_332 (n0 : Nat) (hO : OKc p (rmL 2) s m args meth c LX D cy ad cX1_join RX1 8 2 none) (x3 : Int32) (y6 : Int64) (M : Mem) : BL p l e (rmL 2) s m args below meth c LX D cy ad 8 (QV LX D cy ad) 332 [(0, .ref (ad 7)), (3, .int x3), (6, .long y6)] [] M (fX1_join_332 n0 x3 y6 M) := by
  unfold fX1_join_332
  refine b_aload_n hO dX1_join_332 0 rfl rfl ?_
  refine b_get hO flX1_28 kLX_7 (v := .ref (ad 9)) rfl dX1_join_333 ?_
  refine b_iload_n hO dX1_join_336 1 rfl rfl ?_
  refine b_ldc2 hO w596 dX1_join_337 ?_
  refine b_ldc2 hO w597 dX1_join_340 ?_
  refine b_lload hO dX1_join_343 2 rfl ?_
  refine b_mmin_long hO w598 w599 w136 wm600 (by first | decide | omega) (Nat.le_of_ble_eq_true rfl) dX1_join_345 ?_
  refine b_mmax_long hO w601 w602 w136 wm603 (by first | decide | omega) (Nat.le_of_ble_eq_true rfl) dX1_join_348 ?_
  refine b_l2i hO dX1_join_351 ?_
  refine b_iast hO kLX_9 (n := 64) rfl dX1_join_352 ?_
  exact b_vret hO dX1_join_353
theorem tfX1_join_181 (n0 : Nat) (hO : OKc p (rmL 2) s m args meth c LX D cy ad cX1_join RX1 8 2 none) (x3 : Int32) (v0 : Int64) (M : Mem) : BL p l e (rmL 2) s m args below meth c LX D cy ad 8 (QV LX D cy ad) 181 [(0, .ref (ad 7)), (3, .int x3)] [.long v0] M (fX1_join_181 n0 x3 v0 M) := by
  unfold fX1_join_181
  refine b_lstore hO dX1_join_181 (by decide) (lv' := [(6, .long _), (0, .ref _), (3, .int _)]) rfl ?_
  refine b_goto hO dX1_join_183 (tgt := 332) (by decide) ?_
  refine b_sub [1, 2, 0] rfl ?_
  exact tfX1_join_332 n0 hO _ _ _
theorem tfX1_join_203 (n0 : Nat) (hO : OKc p (rmL 2) s m args meth c LX D cy ad cX1_join RX1 8 2 none) (x3 : Int32) (v0 : Int64) (M : Mem) : BL p l e (rmL 2) s m args below meth c LX D cy ad 8 (QV LX D cy ad) 203 [(0, .ref (ad 7)), (3, .int x3)] [.long v0] M (fX1_join_203 n0 x3 v0 M) := by
  unfold fX1_join_203
  refine b_lstore hO dX1_join_203 (by decide) (lv' := [(6, .long _), (0, .ref _), (3, .int _)]) rfl ?_
  refine b_goto hO dX1_join_205 (tgt := 332) (by decide) ?_
  refine b_sub [1, 2, 0] rfl ?_
  exact tfX1_join_332 n0 hO _ _ _
theorem tfX1_join_254 (n0 : Nat) (hO : OKc p (rmL 2) s m args meth c LX D cy ad cX1_join RX1 8 2 none) (x3 : Int32) (v0 : Int64) (M : Mem) : BL p l e (rmL 2) s m args below meth c LX D cy ad 8 (QV LX D cy ad) 254 [(0, .ref (ad 7)), (3, .int x3)] [.long v0] M (fX1_join_254 n0 x3 v0 M) := by
  unfold fX1_join_254
  refine b_lstore hO dX1_join_254 (by decide) (lv' := [(6, .long _), (0, .ref _), (3, .int _)]) rfl ?_
  refine b_goto hO dX1_join_256 (tgt := 332) (by decide) ?_
  refine b_sub [1, 2, 0] rfl ?_
  exact tfX1_join_332 n0 hO _ _ _
theorem tfX1_join_271 (n0 : Nat) (hO : OKc p (rmL 2) s m args meth c LX D cy ad cX1_join RX1 8 2 none) (x3 : Int32) (v0 : Int64) (M : Mem) : BL p l e (rmL 2) s m args below meth c LX D cy ad 8 (QV LX D cy ad) 271 [(0, .ref (ad 7)), (3, .int x3)] [.long v0] M (fX1_join_271 n0 x3 v0 M) := by
  unfold fX1_join_271
  refine b_lstore hO dX1_join_271 (by decide) (lv' := [(6, .long _), (0, .ref _), (3, .int _)]) rfl ?_
  refine b_goto hO dX1_join_273 (tgt := 332) (by decide) ?_
  refine b_sub [1, 2, 0] rfl ?_
  exact tfX1_join_332 n0 hO _ _ _
theorem tfX1_join_288 (n0 : Nat) (hO : OKc p (rmL 2) s m args meth c LX D cy ad cX1_join RX1 8 2 none) (x3 : Int32) (v0 : Int64) (M : Mem) : BL p l e (rmL 2) s m args below meth c LX D cy ad 8 (QV LX D cy ad) 288 [(0, .ref (ad 7)), (3, .int x3)] [.long v0] M (fX1_join_288 n0 x3 v0 M) := by
  unfold fX1_join_288
  refine b_lstore hO dX1_join_288 (by decide) (lv' := [(6, .long _), (0, .ref _), (3, .int _)]) rfl ?_
  refine b_goto hO dX1_join_290 (tgt := 332) (by decide) ?_
  refine b_sub [1, 2, 0] rfl ?_
  exact tfX1_join_332 n0 hO _ _ _
theorem tfX1_join_305 (n0 : Nat) (hO : OKc p (rmL 2) s m args meth c LX D cy ad cX1_join RX1 8 2 none) (x3 : Int32) (v0 : Int64) (M : Mem) : BL p l e (rmL 2) s m args below meth c LX D cy ad 8 (QV LX D cy ad) 305 [(0, .ref (ad 7)), (3, .int x3)] [.long v0] M (fX1_join_305 n0 x3 v0 M) := by
  unfold fX1_join_305
  refine b_lstore hO dX1_join_305 (by decide) (lv' := [(6, .long _), (0, .ref _), (3, .int _)]) rfl ?_
  refine b_goto hO dX1_join_307 (tgt := 332) (by decide) ?_
  refine b_sub [1, 2, 0] rfl ?_
  exact tfX1_join_332 n0 hO _ _ _
theorem tfX1_join_11 (n0 : Nat) (hO : OKc p (rmL 2) s m args meth c LX D cy ad cX1_join RX1 8 2 none) (x1 : Int32) (u0 : Int32) (M : Mem) : BL p l e (rmL 2) s m args below meth c LX D cy ad 8 (QV LX D cy ad) 11 [(0, .ref (ad 7)), (1, .int x1)] [.int u0] M (fX1_join_11 n0 x1 u0 M) := by
  unfold fX1_join_11
  refine b_istore_n hO dX1_join_11 rfl (by decide) (lv' := [(2, .int _), (0, .ref _), (1, .int _)]) rfl ?_
  refine b_aload_n hO dX1_join_12 1 rfl rfl ?_
  refine b_get hO flX1_31 kLX_7 (v := .int (gI _ 903)) rfl dX1_join_13 ?_
  refine b_iload_n hO dX1_join_16 0 rfl rfl ?_
  refine b_icmp_ge hO dX1_join_17 (tgt := 21) (by decide) ?_ ?_
  · refine b_aload_n hO dX1_join_21 1 rfl rfl ?_
    refine b_dup hO dX1_join_22 rfl ?_
    refine b_get hO flX1_31 kLX_7 (v := .int (gI _ 903)) rfl dX1_join_23 ?_
    refine b_iload_n hO dX1_join_26 0 rfl rfl ?_
    refine b_iconst hO dX1_join_27 ic_i_1 ?_
    refine b_isub hO dX1_join_28 ?_
    refine b_isub hO dX1_join_29 ?_
    refine b_putI hO flX1_31 kLX_7 rfl rfl rfl (id := 903) rfl dX1_join_30 ?_
    refine b_bnd (fun M30 => ?_)
    refine b_aload_n hO dX1_join_33 1 rfl rfl ?_
    refine b_get hO flX1_31 kLX_7 (v := .int (gI _ 903)) rfl dX1_join_34 ?_
    refine b_iconst hO dX1_join_37 ic_i_1 ?_
    refine b_isub hO dX1_join_38 ?_
    refine b_topI (fun x3_39 => ?_)
    refine b_istore_n hO dX1_join_39 rfl (by decide) (lv' := [(3, .int _), (2, .int _), (0, .ref _), (1, .int _)]) rfl ?_
    refine b_aload_n hO dX1_join_40 2 rfl rfl ?_
    refine b_get hO flX1_28 kLX_7 (v := .ref (ad 9)) rfl dX1_join_41 ?_
    refine b_iload_n hO dX1_join_44 0 rfl rfl ?_
    refine b_iald hO kLX_9 (n := 64) rfl dX1_join_45 ?_
    refine b_topI (fun x4_46 => ?_)
    refine b_istore hO dX1_join_46 (by decide) (lv' := [(4, .int _), (3, .int _), (2, .int _), (0, .ref _), (1, .int _)]) rfl ?_
    refine b_aload_n hO dX1_join_48 3 rfl rfl ?_
    refine b_get hO flX1_28 kLX_7 (v := .ref (ad 9)) rfl dX1_join_49 ?_
    refine b_iload_n hO dX1_join_52 1 rfl rfl ?_
    refine b_iconst hO dX1_join_53 ic_i_1 ?_
    refine b_iadd hO dX1_join_54 ?_
    refine b_iald hO kLX_9 (n := 64) rfl dX1_join_55 ?_
    refine b_topI (fun x5_56 => ?_)
    refine b_istore hO dX1_join_56 (by decide) (lv' := [(5, .int _), (4, .int _), (3, .int _), (2, .int _), (0, .ref _), (1, .int _)]) rfl ?_
    refine b_lconst hO dX1_join_58 (v := 0) rfl ?_
    refine b_lstore hO dX1_join_59 (by decide) (lv' := [(6, .long _), (5, .int _), (4, .int _), (3, .int _), (2, .int _), (0, .ref _), (1, .int _)]) rfl ?_
    refine b_iload_n hO dX1_join_61 6 rfl rfl ?_
    refine b_tabIn hO dX1_join_62 (v := (-19 : Int32)) (z := -19) (tgt := 321) (by decide) (by decide) (by decide) rfl (by decide) ?_ (fun hn0 => ?_)
    · refine b_iload hO dX1_join_321 2 rfl ?_
      refine b_iload hO dX1_join_323 1 rfl ?_
      refine b_ior hO dX1_join_325 ?_
      refine b_i2l hO dX1_join_326 ?_
      refine b_topL (fun y6_327 => ?_)
      refine b_lstore hO dX1_join_327 (by decide) (lv' := [(6, .long _), (5, .int _), (4, .int _), (3, .int _), (2, .int _), (0, .ref _), (1, .int _)]) rfl ?_
      refine b_goto hO dX1_join_329 (tgt := 332) (by decide) ?_
      refine b_sub [5, 3, 0] rfl ?_
      exact tfX1_join_332 n0 hO _ _ _
    refine b_tabIn hO dX1_join_62 (v := (-18 : Int32)) (z := -18) (tgt := 310) (by decide) (by decide) (by decide) rfl (by decide) ?_ (fun hn1 => ?_)
    · refine b_iload hO dX1_join_310 2 rfl ?_
      refine b_iload hO dX1_join_312 1 rfl ?_
      refine b_iand hO dX1_join_314 ?_
      refine b_i2l hO dX1_join_315 ?_
      refine b_topL (fun y6_316 => ?_)
      refine b_lstore hO dX1_join_316 (by decide) (lv' := [(6, .long _), (5, .int _), (4, .int _), (3, .int _), (2, .int _), (0, .ref _), (1, .int _)]) rfl ?_
      refine b_goto hO dX1_join_318 (tgt := 332) (by decide) ?_
      refine b_sub [5, 3, 0] rfl ?_
      exact tfX1_join_332 n0 hO _ _ _
    refine b_tabIn hO dX1_join_62 (v := (-17 : Int32)) (z := -17) (tgt := 293) (by decide) (by decide) (by decide) rfl (by decide) ?_ (fun hn2 => ?_)
    · refine b_iload hO dX1_join_293 2 rfl ?_
      refine b_iload hO dX1_join_295 1 rfl ?_
      refine b_icmp_ne hO dX1_join_297 (tgt := 304) (by decide) ?_ ?_
      · refine b_lconst hO dX1_join_304 (v := 0) rfl ?_
        refine b_sub [5, 3] rfl ?_
        exact tfX1_join_305 n0 hO _ _ _
      · refine b_lconst hO dX1_join_300 (v := 1) rfl ?_
        refine b_goto hO dX1_join_301 (tgt := 305) (by decide) ?_
        refine b_sub [5, 3] rfl ?_
        exact tfX1_join_305 n0 hO _ _ _
    refine b_tabIn hO dX1_join_62 (v := (-16 : Int32)) (z := -16) (tgt := 276) (by decide) (by decide) (by decide) rfl (by decide) ?_ (fun hn3 => ?_)
    · refine b_iload hO dX1_join_276 2 rfl ?_
      refine b_iload hO dX1_join_278 1 rfl ?_
      refine b_icmp_le hO dX1_join_280 (tgt := 287) (by decide) ?_ ?_
      · refine b_lconst hO dX1_join_287 (v := 0) rfl ?_
        refine b_sub [5, 3] rfl ?_
        exact tfX1_join_288 n0 hO _ _ _
      · refine b_lconst hO dX1_join_283 (v := 1) rfl ?_
        refine b_goto hO dX1_join_284 (tgt := 288) (by decide) ?_
        refine b_sub [5, 3] rfl ?_
        exact tfX1_join_288 n0 hO _ _ _
    refine b_tabIn hO dX1_join_62 (v := (-15 : Int32)) (z := -15) (tgt := 259) (by decide) (by decide) (by decide) rfl (by decide) ?_ (fun hn4 => ?_)
    · refine b_iload hO dX1_join_259 2 rfl ?_
      refine b_iload hO dX1_join_261 1 rfl ?_
      refine b_icmp_ge hO dX1_join_263 (tgt := 270) (by decide) ?_ ?_
      · refine b_lconst hO dX1_join_270 (v := 0) rfl ?_
        refine b_sub [5, 3] rfl ?_
        exact tfX1_join_271 n0 hO _ _ _
      · refine b_lconst hO dX1_join_266 (v := 1) rfl ?_
        refine b_goto hO dX1_join_267 (tgt := 271) (by decide) ?_
        refine b_sub [5, 3] rfl ?_
        exact tfX1_join_271 n0 hO _ _ _
    refine b_tabIn hO dX1_join_62 (v := (-14 : Int32)) (z := -14) (tgt := 234) (by decide) (by decide) (by decide) rfl (by decide) ?_ (fun hn5 => ?_)
    · refine b_iload hO dX1_join_234 2 rfl ?_
      refine b_if_eq hO dX1_join_236 (tgt := 245) (by decide) ?_ ?_
      · refine b_aload_n hO dX1_join_245 5 rfl rfl ?_
        refine b_get hO flX1_28 kLX_7 (v := .ref (ad 9)) rfl dX1_join_246 ?_
        refine b_iload_n hO dX1_join_249 3 rfl rfl ?_
        refine b_iconst hO dX1_join_250 ic_i_2 ?_
        refine b_iadd hO dX1_join_251 ?_
        refine b_iald hO kLX_9 (n := 64) rfl dX1_join_252 ?_
        refine b_i2l hO dX1_join_253 ?_
        refine b_sub [5, 3] rfl ?_
        exact tfX1_join_254 n0 hO _ _ _
      · refine b_iload hO dX1_join_239 1 rfl ?_
        refine b_i2l hO dX1_join_241 ?_
        refine b_goto hO dX1_join_242 (tgt := 254) (by decide) ?_
        refine b_sub [5, 3] rfl ?_
        exact tfX1_join_254 n0 hO _ _ _
    refine b_tabIn hO dX1_join_62 (v := (-13 : Int32)) (z := -13) (tgt := 221) (by decide) (by decide) (by decide) rfl (by decide) ?_ (fun hn6 => ?_)
    · refine b_iload hO dX1_join_221 2 rfl ?_
      refine b_iload hO dX1_join_223 1 rfl ?_
      refine b_mmax hO w593 w594 w136 wm595 (by first | decide | omega) (Nat.le_of_ble_eq_true rfl) dX1_join_225 ?_
      refine b_i2l hO dX1_join_228 ?_
      refine b_topL (fun y6_229 => ?_)
      refine b_lstore hO dX1_join_229 (by decide) (lv' := [(6, .long _), (5, .int _), (4, .int _), (3, .int _), (2, .int _), (0, .ref _), (1, .int _)]) rfl ?_
      refine b_goto hO dX1_join_231 (tgt := 332) (by decide) ?_
      refine b_sub [5, 3, 0] rfl ?_
      exact tfX1_join_332 n0 hO _ _ _
    refine b_tabIn hO dX1_join_62 (v := (-12 : Int32)) (z := -12) (tgt := 208) (by decide) (by decide) (by decide) rfl (by decide) ?_ (fun hn7 => ?_)
    · refine b_iload hO dX1_join_208 2 rfl ?_
      refine b_iload hO dX1_join_210 1 rfl ?_
      refine b_mmin hO w590 w591 w136 wm592 (by first | decide | omega) (Nat.le_of_ble_eq_true rfl) dX1_join_212 ?_
      refine b_i2l hO dX1_join_215 ?_
      refine b_topL (fun y6_216 => ?_)
      refine b_lstore hO dX1_join_216 (by decide) (lv' := [(6, .long _), (5, .int _), (4, .int _), (3, .int _), (2, .int _), (0, .ref _), (1, .int _)]) rfl ?_
      refine b_goto hO dX1_join_218 (tgt := 332) (by decide) ?_
      refine b_sub [5, 3, 0] rfl ?_
      exact tfX1_join_332 n0 hO _ _ _
    refine b_tabIn hO dX1_join_62 (v := (-11 : Int32)) (z := -11) (tgt := 186) (by decide) (by decide) (by decide) rfl (by decide) ?_ (fun hn8 => ?_)
    · refine b_iload hO dX1_join_186 1 rfl ?_
      refine b_if_ne hO dX1_join_188 (tgt := 195) (by decide) ?_ ?_
      · refine b_iload hO dX1_join_195 2 rfl ?_
        refine b_iload hO dX1_join_197 1 rfl ?_
        refine b_callSI hO mdJ9_floorMod_7cf53 w588 w587 (As := [.int _, .int _]) (st := []) (ctJ9_floorMod_7cf53 n0 hO.2.2.2.2.2.2.1 _ _ _) (Nat.le_of_ble_eq_true rfl) rfl rfl (Nat.le_of_ble_eq_true rfl) dX1_join_199 (fun z199 => ?_)
        refine b_i2l hO dX1_join_202 ?_
        refine b_sub [5, 3] rfl ?_
        exact tfX1_join_203 n0 hO _ _ _
      · refine b_lconst hO dX1_join_191 (v := 0) rfl ?_
        refine b_goto hO dX1_join_192 (tgt := 203) (by decide) ?_
        refine b_sub [5, 3] rfl ?_
        exact tfX1_join_203 n0 hO _ _ _
    refine b_tabIn hO dX1_join_62 (v := (-10 : Int32)) (z := -10) (tgt := 164) (by decide) (by decide) (by decide) rfl (by decide) ?_ (fun hn9 => ?_)
    · refine b_iload hO dX1_join_164 1 rfl ?_
      refine b_if_ne hO dX1_join_166 (tgt := 173) (by decide) ?_ ?_
      · refine b_iload hO dX1_join_173 2 rfl ?_
        refine b_iload hO dX1_join_175 1 rfl ?_
        refine b_callSI hO mdJ9_floorDiv_7cf53 w585 w584 (As := [.int _, .int _]) (st := []) (ctJ9_floorDiv_7cf53 n0 hO.2.2.2.2.2.2.1 _ _ _) (Nat.le_of_ble_eq_true rfl) rfl rfl (Nat.le_of_ble_eq_true rfl) dX1_join_177 (fun z177 => ?_)
        refine b_i2l hO dX1_join_180 ?_
        refine b_sub [5, 3] rfl ?_
        exact tfX1_join_181 n0 hO _ _ _
      · refine b_lconst hO dX1_join_169 (v := 0) rfl ?_
        refine b_goto hO dX1_join_170 (tgt := 181) (by decide) ?_
        refine b_sub [5, 3] rfl ?_
        exact tfX1_join_181 n0 hO _ _ _
    refine b_tabIn hO dX1_join_62 (v := (-9 : Int32)) (z := -9) (tgt := 152) (by decide) (by decide) (by decide) rfl (by decide) ?_ (fun hn10 => ?_)
    · refine b_iload hO dX1_join_152 2 rfl ?_
      refine b_i2l hO dX1_join_154 ?_
      refine b_iload hO dX1_join_155 1 rfl ?_
      refine b_i2l hO dX1_join_157 ?_
      refine b_lmul hO dX1_join_158 ?_
      refine b_topL (fun y6_159 => ?_)
      refine b_lstore hO dX1_join_159 (by decide) (lv' := [(6, .long _), (5, .int _), (4, .int _), (3, .int _), (2, .int _), (0, .ref _), (1, .int _)]) rfl ?_
      refine b_goto hO dX1_join_161 (tgt := 332) (by decide) ?_
      refine b_sub [5, 3, 0] rfl ?_
      exact tfX1_join_332 n0 hO _ _ _
    refine b_tabIn hO dX1_join_62 (v := (-8 : Int32)) (z := -8) (tgt := 140) (by decide) (by decide) (by decide) rfl (by decide) ?_ (fun hn11 => ?_)
    · refine b_iload hO dX1_join_140 2 rfl ?_
      refine b_i2l hO dX1_join_142 ?_
      refine b_iload hO dX1_join_143 1 rfl ?_
      refine b_i2l hO dX1_join_145 ?_
      refine b_lsub hO dX1_join_146 ?_
      refine b_topL (fun y6_147 => ?_)
      refine b_lstore hO dX1_join_147 (by decide) (lv' := [(6, .long _), (5, .int _), (4, .int _), (3, .int _), (2, .int _), (0, .ref _), (1, .int _)]) rfl ?_
      refine b_goto hO dX1_join_149 (tgt := 332) (by decide) ?_
      refine b_sub [5, 3, 0] rfl ?_
      exact tfX1_join_332 n0 hO _ _ _
    refine b_tabIn hO dX1_join_62 (v := (-7 : Int32)) (z := -7) (tgt := 128) (by decide) (by decide) (by decide) rfl (by decide) ?_ (fun hn12 => ?_)
    · refine b_iload hO dX1_join_128 2 rfl ?_
      refine b_i2l hO dX1_join_130 ?_
      refine b_iload hO dX1_join_131 1 rfl ?_
      refine b_i2l hO dX1_join_133 ?_
      refine b_ladd hO dX1_join_134 ?_
      refine b_topL (fun y6_135 => ?_)
      refine b_lstore hO dX1_join_135 (by decide) (lv' := [(6, .long _), (5, .int _), (4, .int _), (3, .int _), (2, .int _), (0, .ref _), (1, .int _)]) rfl ?_
      refine b_goto hO dX1_join_137 (tgt := 332) (by decide) ?_
      refine b_sub [5, 3, 0] rfl ?_
      exact tfX1_join_332 n0 hO _ _ _
    refine b_tabOut hO dX1_join_62 (tgt := 332) (by omega) (by decide) ?_
    refine b_sub [5, 3, 0] rfl ?_
    exact tfX1_join_332 n0 hO _ _ _
  · exact b_vret hO dX1_join_20
theorem tfX1_join (n0 : Nat) (hO : OKc p (rmL 2) s m args meth c LX D cy ad cX1_join RX1 8 2 none) (x1 : Int32) (M : Mem) : BL p l e (rmL 2) s m args below meth c LX D cy ad 8 (QV LX D cy ad) 0 [(0, .ref (ad 7)), (1, .int x1)] [] M (fX1_join n0 x1 M) := by
  unfold fX1_join
  refine b_iload_n hO dX1_join_0 1 rfl rfl ?_
  refine b_bipush hO dX1_join_1 ic_b_m14 ?_
  refine b_icmp_ne hO dX1_join_3 (tgt := 10) (by decide) ?_ ?_
  · refine b_iconst hO dX1_join_10 ic_i_2 ?_
    exact tfX1_join_11 n0 hO _ _ _
  · refine b_iconst hO dX1_join_6 ic_i_3 ?_
    refine b_goto hO dX1_join_7 (tgt := 11) (by decide) ?_
    exact tfX1_join_11 n0 hO _ _ _
theorem ctX1_join (n0 : Nat) (hI : Inj LX ad) (x1 : Int32) (M : Mem) : CT l LX D cy ad yX1_join cX1_join 8 none 2 (QV LX D cy ad) [.ref (ad 7), .int x1] M (fX1_join n0 x1 M) :=
  CT.mk LXok hI (by decide) (Nat.le_of_ble_eq_true rfl) (fun hO => tfX1_join n0 hO x1 M)
/-! X1_valueOf -/
def fX1_valueOf_203 (n0 : Nat) (q1 : Nat) (k124 : Int32 → Mem → Option (Int32 × Mem)) (x3 : Int32) (M : Mem) : Option (Int32 × Mem) :=
  k124 (x3 + (1 : Int32)) M
def fX1_valueOf_192 (n0 : Nat) (q1 : Nat) (k124 : Int32 → Mem → Option (Int32 × Mem)) (x3 : Int32) (u1 : Int32) (u2 : Int32) (M : Mem) : Option (Int32 × Mem) :=
  if oob u1 64 then none else
  bnd (sA M 9 (Int32.toNatClampNeg u1) u2) fun M192 =>
  fX1_valueOf_203 n0 q1 k124 x3 (sI M192 903 ((gI M192 903) + (1 : Int32)))
def bX1_valueOf_124 (n0 : Nat) (q1 : Nat) (k124 : Int32 → Mem → Option (Int32 × Mem)) (x3 : Int32) (M : Mem) : Option (Int32 × Mem) :=
  if (gI M (128 * q1 + 1)) ≤ x3 then
    if (gI M 903) ≤ 0 then
      some ((0 : Int32), M)
    else
      if oob (0 : Int32) 64 then none else
      some ((gA M 9 (Int32.toNatClampNeg (0 : Int32))), M)
  else
    if oob x3 1600 then none else
    bnd (gA M (q1 + 1) (Int32.toNatClampNeg x3)) fun x4_138 =>
    if (-6 : Int32) ≤ x4_138 then
      if (64 : Int32) ≤ (gI M 903) then
        fX1_valueOf_203 n0 q1 k124 x3 M
      else
        if x4_138 < 0 then
          if oob ((-1 : Int32) - x4_138) 6 then none else
          fX1_valueOf_192 n0 q1 k124 x3 (gI M 903) (gA M 8 (Int32.toNatClampNeg ((-1 : Int32) - x4_138))) M
        else
          fX1_valueOf_192 n0 q1 k124 x3 (gI M 903) x4_138 M
    else
      (fX1_join n0 x4_138 M).bind fun z150 =>
      fX1_valueOf_203 n0 q1 k124 x3 z150
def fX1_valueOf_124 (n0 : Nat) (q1 : Nat) : Int32 → Mem → Option (Int32 × Mem) := loopN (bX1_valueOf_124 n0 q1) (fun _ _ => none) n0
def fX1_valueOf_116 (n0 : Nat) (q1 : Nat) (u1 : Int32) (u2 : Int32) (M : Mem) : Option (Int32 × Mem) :=
  if oob u1 6 then none else
  bnd (sA M 8 (Int32.toNatClampNeg u1) u2) fun M116 =>
  bnd (sI M116 903 (0 : Int32)) fun M119 =>
  fX1_valueOf_124 n0 q1 (0 : Int32) M119
def fX1_valueOf_90 (n0 : Nat) (q1 : Nat) (x2 : Int32) (u1 : Int32) (u2 : Int32) (M : Mem) : Option (Int32 × Mem) :=
  if oob u1 6 then none else
  bnd (sA M 8 (Int32.toNatClampNeg u1) u2) fun M90 =>
  if x2 = 0 then
    if oob (gI M90 898) 6 then none else
    fX1_valueOf_116 n0 q1 (5 : Int32) (gA M90 ((gR M90 896) + 3) (Int32.toNatClampNeg (gI M90 898))) M90
  else
    fX1_valueOf_116 n0 q1 (5 : Int32) (0 : Int32) M90
def fX1_valueOf_45 (n0 : Nat) (q1 : Nat) (x2 : Int32) (u1 : Int32) (u2 : Int32) (M : Mem) : Option (Int32 × Mem) :=
  if oob u1 6 then none else
  bnd (sA M 8 (Int32.toNatClampNeg u1) u2) fun M45 =>
  if oob (1 : Int32) 6 then none else
  bnd (sA M45 8 (Int32.toNatClampNeg (1 : Int32)) (gI M45 899)) fun M55 =>
  if oob (2 : Int32) 6 then none else
  bnd (sA M55 8 (Int32.toNatClampNeg (2 : Int32)) (gI M55 897)) fun M65 =>
  if oob (3 : Int32) 6 then none else
  bnd (sA M65 8 (Int32.toNatClampNeg (3 : Int32)) (gI M65 900)) fun M75 =>
  if x2 = 0 then
    fX1_valueOf_90 n0 q1 x2 (4 : Int32) (0 : Int32) M75
  else
    fX1_valueOf_90 n0 q1 x2 (4 : Int32) (1 : Int32) M75
def fX1_valueOf_19 (n0 : Nat) (q1 : Nat) (u0 : Int32) (M : Mem) : Option (Int32 × Mem) :=
  if u0 = 0 then
    if oob (gI M 898) 6 then none else
    fX1_valueOf_45 n0 q1 u0 (0 : Int32) (gA M ((gR M 896) + 2) (Int32.toNatClampNeg (gI M 898))) M
  else
    fX1_valueOf_45 n0 q1 u0 (0 : Int32) (0 : Int32) M
def fX1_valueOf (n0 : Nat) (q1 : Nat) (M : Mem) : Option (Int32 × Mem) :=
  (fX9_isThing n0 (gR M 896) (gI M 898) M).bind fun z8 =>
  if z8.1 = 0 then
    fX1_valueOf_19 n0 q1 (1 : Int32) z8.2
  else
    fX1_valueOf_19 n0 q1 (0 : Int32) z8.2
theorem tfX1_valueOf_203 (n0 : Nat) (q1 : Nat) (hq1 : isK LX q1 0) (hO : OKc p (rmL 3) s m args meth c LX D cy ad cX1_valueOf RX1 5 3 (some .int)) (k124 : Int32 → Mem → Option (Int32 × Mem)) (hk124 : ∀ (x3 : Int32) (M : Mem), BL p l e (rmL 3) s m args below meth c LX D cy ad 5 (QI LX D cy ad) 124 [(0, .ref (ad 7)), (1, .ref (ad q1)), (3, .int x3)] [] M (k124 x3 M)) (x3 : Int32) (M : Mem) : BL p l e (rmL 3) s m args below meth c LX D cy ad 5 (QI LX D cy ad) 203 [(0, .ref (ad 7)), (1, .ref (ad q1)), (3, .int x3)] [] M (fX1_valueOf_203 n0 q1 k124 x3 M) := by
  unfold fX1_valueOf_203
  refine b_iinc hO dX1_valueOf_203 2 rfl ic_i_1 (by decide) (lv' := [(3, .int _), (0, .ref _), (1, .ref _)]) rfl ?_
  refine b_goto hO dX1_valueOf_206 (tgt := 124) (by decide) ?_
  refine b_sub [1, 2, 0] rfl ?_
  exact hk124 _ _
theorem tfX1_valueOf_192 (n0 : Nat) (q1 : Nat) (hq1 : isK LX q1 0) (hO : OKc p (rmL 3) s m args meth c LX D cy ad cX1_valueOf RX1 5 3 (some .int)) (k124 : Int32 → Mem → Option (Int32 × Mem)) (hk124 : ∀ (x3 : Int32) (M : Mem), BL p l e (rmL 3) s m args below meth c LX D cy ad 5 (QI LX D cy ad) 124 [(0, .ref (ad 7)), (1, .ref (ad q1)), (3, .int x3)] [] M (k124 x3 M)) (x3 : Int32) (u1 : Int32) (u2 : Int32) (M : Mem) : BL p l e (rmL 3) s m args below meth c LX D cy ad 5 (QI LX D cy ad) 192 [(0, .ref (ad 7)), (1, .ref (ad q1)), (3, .int x3)] [.int u2, .int u1, .ref (ad 9)] M (fX1_valueOf_192 n0 q1 k124 x3 u1 u2 M) := by
  unfold fX1_valueOf_192
  refine b_iast hO kLX_9 (n := 64) rfl dX1_valueOf_192 ?_
  refine b_bnd (fun M192 => ?_)
  refine b_aload_n hO dX1_valueOf_193 0 rfl rfl ?_
  refine b_dup hO dX1_valueOf_194 rfl ?_
  refine b_get hO flX1_31 kLX_7 (v := .int (gI _ 903)) rfl dX1_valueOf_195 ?_
  refine b_iconst hO dX1_valueOf_198 ic_i_1 ?_
  refine b_iadd hO dX1_valueOf_199 ?_
  refine b_putI hO flX1_31 kLX_7 rfl rfl rfl (id := 903) rfl dX1_valueOf_200 ?_
  exact tfX1_valueOf_203 n0 q1 hq1 hO k124 hk124 _ _
theorem tbX1_valueOf_124 (n0 : Nat) (q1 : Nat) (hq1 : isK LX q1 0) (hO : OKc p (rmL 3) s m args meth c LX D cy ad cX1_valueOf RX1 5 3 (some .int)) (k124 : Int32 → Mem → Option (Int32 × Mem)) (hk124 : ∀ (x3 : Int32) (M : Mem), BL p l e (rmL 3) s m args below meth c LX D cy ad 5 (QI LX D cy ad) 124 [(0, .ref (ad 7)), (1, .ref (ad q1)), (3, .int x3)] [] M (k124 x3 M)) (x3 : Int32) (M : Mem) : BL p l e (rmL 3) s m args below meth c LX D cy ad 5 (QI LX D cy ad) 124 [(0, .ref (ad 7)), (1, .ref (ad q1)), (3, .int x3)] [] M (bX1_valueOf_124 n0 q1 k124 x3 M) := by
  unfold bX1_valueOf_124
  refine b_iload_n hO dX1_valueOf_124 2 rfl rfl ?_
  refine b_aload_n hO dX1_valueOf_125 1 rfl rfl ?_
  refine b_get hO flX1_83 hq1 (v := .int (gI _ (128 * q1 + 1))) rfl dX1_valueOf_126 ?_
  refine b_icmp_ge hO dX1_valueOf_129 (tgt := 209) (by decide) ?_ ?_
  · refine b_aload_n hO dX1_valueOf_209 0 rfl rfl ?_
    refine b_get hO flX1_31 kLX_7 (v := .int (gI _ 903)) rfl dX1_valueOf_210 ?_
    refine b_if_le hO dX1_valueOf_213 (tgt := 225) (by decide) ?_ ?_
    · refine b_iconst hO dX1_valueOf_225 ic_i_0 ?_
      exact b_iret hO dX1_valueOf_226
    · refine b_aload_n hO dX1_valueOf_216 0 rfl rfl ?_
      refine b_get hO flX1_28 kLX_7 (v := .ref (ad 9)) rfl dX1_valueOf_217 ?_
      refine b_iconst hO dX1_valueOf_220 ic_i_0 ?_
      refine b_iald hO kLX_9 (n := 64) rfl dX1_valueOf_221 ?_
      refine b_goto hO dX1_valueOf_222 (tgt := 226) (by decide) ?_
      exact b_iret hO dX1_valueOf_226
  · refine b_aload_n hO dX1_valueOf_132 1 rfl rfl ?_
    refine b_get hO flX1_86 hq1 (v := .ref (ad (q1 + 1))) rfl dX1_valueOf_133 ?_
    refine b_iload_n hO dX1_valueOf_136 2 rfl rfl ?_
    refine b_iald hO (kt_0_1 hq1) (n := 1600) (lt_0_1 hq1) dX1_valueOf_137 ?_
    refine b_topI (fun x4_138 => ?_)
    refine b_istore hO dX1_valueOf_138 (by decide) (lv' := [(4, .int _), (0, .ref _), (1, .ref _), (3, .int _)]) rfl ?_
    refine b_iload hO dX1_valueOf_140 0 rfl ?_
    refine b_bipush hO dX1_valueOf_142 ic_b_m6 ?_
    refine b_icmp_ge hO dX1_valueOf_144 (tgt := 156) (by decide) ?_ ?_
    · refine b_aload_n hO dX1_valueOf_156 1 rfl rfl ?_
      refine b_get hO flX1_31 kLX_7 (v := .int (gI _ 903)) rfl dX1_valueOf_157 ?_
      refine b_bipush hO dX1_valueOf_160 ic_b_64 ?_
      refine b_icmp_ge hO dX1_valueOf_162 (tgt := 203) (by decide) ?_ ?_
      · refine b_sub [1, 2, 3] rfl ?_
        exact tfX1_valueOf_203 n0 q1 hq1 hO k124 hk124 _ _
      · refine b_aload_n hO dX1_valueOf_165 1 rfl rfl ?_
        refine b_get hO flX1_28 kLX_7 (v := .ref (ad 9)) rfl dX1_valueOf_166 ?_
        refine b_aload_n hO dX1_valueOf_169 1 rfl rfl ?_
        refine b_get hO flX1_31 kLX_7 (v := .int (gI _ 903)) rfl dX1_valueOf_170 ?_
        refine b_iload hO dX1_valueOf_173 0 rfl ?_
        refine b_if_lt hO dX1_valueOf_175 (tgt := 183) (by decide) ?_ ?_
        · refine b_aload_n hO dX1_valueOf_183 1 rfl rfl ?_
          refine b_get hO flX1_24 kLX_7 (v := .ref (ad 8)) rfl dX1_valueOf_184 ?_
          refine b_iconst hO dX1_valueOf_187 ic_i_m1 ?_
          refine b_iload hO dX1_valueOf_188 0 rfl ?_
          refine b_isub hO dX1_valueOf_190 ?_
          refine b_iald hO kLX_8 (n := 6) rfl dX1_valueOf_191 ?_
          refine b_sub [1, 2, 3] rfl ?_
          exact tfX1_valueOf_192 n0 q1 hq1 hO k124 hk124 _ _ _ _
        · refine b_iload hO dX1_valueOf_178 0 rfl ?_
          refine b_goto hO dX1_valueOf_180 (tgt := 192) (by decide) ?_
          refine b_sub [1, 2, 3] rfl ?_
          exact tfX1_valueOf_192 n0 q1 hq1 hO k124 hk124 _ _ _ _
    · refine b_aload_n hO dX1_valueOf_147 1 rfl rfl ?_
      refine b_iload hO dX1_valueOf_148 0 rfl ?_
      refine b_callVV hO mdX1_join mvX1_join w580 (ci := 1) rfl rfl (by decide) kLX_7 (As := [.int _]) (st := []) (ctX1_join n0 hO.2.2.2.2.2.2.1 _ _) (Nat.le_of_ble_eq_true rfl) rfl rfl (Nat.le_of_ble_eq_true rfl) dX1_valueOf_150 (fun z150 => ?_)
      refine b_goto hO dX1_valueOf_153 (tgt := 203) (by decide) ?_
      refine b_sub [1, 2, 3] rfl ?_
      exact tfX1_valueOf_203 n0 q1 hq1 hO k124 hk124 _ _
theorem lX1_valueOf_124 (n0 : Nat) (q1 : Nat) (hq1 : isK LX q1 0) (hO : OKc p (rmL 3) s m args meth c LX D cy ad cX1_valueOf RX1 5 3 (some .int)) : ∀ (w : Nat) (x3 : Int32) (M : Mem), BL p l e (rmL 3) s m args below meth c LX D cy ad 5 (QI LX D cy ad) 124 [(0, .ref (ad 7)), (1, .ref (ad q1)), (3, .int x3)] [] M (loopN (bX1_valueOf_124 n0 q1) (fun _ _ => none) w x3 M) := by
  intro w
  induction w with
  | zero =>
    intros
    exact b_none
  | succ w ih =>
    intro x3 M
    exact tbX1_valueOf_124 n0 q1 hq1 hO _ ih x3 M
theorem tfX1_valueOf_124 (n0 : Nat) (q1 : Nat) (hq1 : isK LX q1 0) (hO : OKc p (rmL 3) s m args meth c LX D cy ad cX1_valueOf RX1 5 3 (some .int)) (x3 : Int32) (M : Mem) : BL p l e (rmL 3) s m args below meth c LX D cy ad 5 (QI LX D cy ad) 124 [(0, .ref (ad 7)), (1, .ref (ad q1)), (3, .int x3)] [] M (fX1_valueOf_124 n0 q1 x3 M) := lX1_valueOf_124 n0 q1 hq1 hO n0 x3 M
theorem tfX1_valueOf_116 (n0 : Nat) (q1 : Nat) (hq1 : isK LX q1 0) (hO : OKc p (rmL 3) s m args meth c LX D cy ad cX1_valueOf RX1 5 3 (some .int)) (u1 : Int32) (u2 : Int32) (M : Mem) : BL p l e (rmL 3) s m args below meth c LX D cy ad 5 (QI LX D cy ad) 116 [(0, .ref (ad 7)), (1, .ref (ad q1))] [.int u2, .int u1, .ref (ad 8)] M (fX1_valueOf_116 n0 q1 u1 u2 M) := by
  unfold fX1_valueOf_116
  refine b_iast hO kLX_8 (n := 6) rfl dX1_valueOf_116 ?_
  refine b_bnd (fun M116 => ?_)
  refine b_aload_n hO dX1_valueOf_117 0 rfl rfl ?_
  refine b_iconst hO dX1_valueOf_118 ic_i_0 ?_
  refine b_putI hO flX1_31 kLX_7 rfl rfl rfl (id := 903) rfl dX1_valueOf_119 ?_
  refine b_bnd (fun M119 => ?_)
  refine b_iconst hO dX1_valueOf_122 ic_i_0 ?_
  refine b_istore_n hO dX1_valueOf_123 rfl (by decide) (lv' := [(3, .int _), (0, .ref _), (1, .ref _)]) rfl ?_
  refine b_sub [1, 2, 0] rfl ?_
  exact tfX1_valueOf_124 n0 q1 hq1 hO _ _
theorem tfX1_valueOf_90 (n0 : Nat) (q1 : Nat) (hq1 : isK LX q1 0) (hO : OKc p (rmL 3) s m args meth c LX D cy ad cX1_valueOf RX1 5 3 (some .int)) (x2 : Int32) (u1 : Int32) (u2 : Int32) (M : Mem) : BL p l e (rmL 3) s m args below meth c LX D cy ad 5 (QI LX D cy ad) 90 [(0, .ref (ad 7)), (1, .ref (ad q1)), (2, .int x2)] [.int u2, .int u1, .ref (ad 8)] M (fX1_valueOf_90 n0 q1 x2 u1 u2 M) := by
  unfold fX1_valueOf_90
  refine b_iast hO kLX_8 (n := 6) rfl dX1_valueOf_90 ?_
  refine b_bnd (fun M90 => ?_)
  refine b_aload_n hO dX1_valueOf_91 0 rfl rfl ?_
  refine b_get hO flX1_24 kLX_7 (v := .ref (ad 8)) rfl dX1_valueOf_92 ?_
  refine b_iconst hO dX1_valueOf_95 ic_i_5 ?_
  refine b_iload_n hO dX1_valueOf_96 2 rfl rfl ?_
  refine b_if_eq hO dX1_valueOf_97 (tgt := 104) (by decide) ?_ ?_
  · refine b_aload_n hO dX1_valueOf_104 0 rfl rfl ?_
    refine b_getR hO flX1_34 kLX_7 (id := 896) rfl rfl (rk := 9) rfl (by decide) dX1_valueOf_105 (fun hg1 => ?_)
    refine b_get hO flX1_73 hg1 (v := .ref (ad ((gR M90 896) + 3))) rfl dX1_valueOf_108 ?_
    refine b_aload_n hO dX1_valueOf_111 0 rfl rfl ?_
    refine b_get hO flX1_15 kLX_7 (v := .int (gI _ 898)) rfl dX1_valueOf_112 ?_
    refine b_iald hO (kt_9_3 hg1) (n := 6) (lt_9_3 hg1) dX1_valueOf_115 ?_
    refine b_sub [0, 1] rfl ?_
    exact tfX1_valueOf_116 n0 q1 hq1 hO _ _ _
  · refine b_iconst hO dX1_valueOf_100 ic_i_0 ?_
    refine b_goto hO dX1_valueOf_101 (tgt := 116) (by decide) ?_
    refine b_sub [0, 1] rfl ?_
    exact tfX1_valueOf_116 n0 q1 hq1 hO _ _ _
theorem tfX1_valueOf_45 (n0 : Nat) (q1 : Nat) (hq1 : isK LX q1 0) (hO : OKc p (rmL 3) s m args meth c LX D cy ad cX1_valueOf RX1 5 3 (some .int)) (x2 : Int32) (u1 : Int32) (u2 : Int32) (M : Mem) : BL p l e (rmL 3) s m args below meth c LX D cy ad 5 (QI LX D cy ad) 45 [(0, .ref (ad 7)), (1, .ref (ad q1)), (2, .int x2)] [.int u2, .int u1, .ref (ad 8)] M (fX1_valueOf_45 n0 q1 x2 u1 u2 M) := by
  unfold fX1_valueOf_45
  refine b_iast hO kLX_8 (n := 6) rfl dX1_valueOf_45 ?_
  refine b_bnd (fun M45 => ?_)
  refine b_aload_n hO dX1_valueOf_46 0 rfl rfl ?_
  refine b_get hO flX1_24 kLX_7 (v := .ref (ad 8)) rfl dX1_valueOf_47 ?_
  refine b_iconst hO dX1_valueOf_50 ic_i_1 ?_
  refine b_aload_n hO dX1_valueOf_51 0 rfl rfl ?_
  refine b_get hO flX1_18 kLX_7 (v := .int (gI _ 899)) rfl dX1_valueOf_52 ?_
  refine b_iast hO kLX_8 (n := 6) rfl dX1_valueOf_55 ?_
  refine b_bnd (fun M55 => ?_)
  refine b_aload_n hO dX1_valueOf_56 0 rfl rfl ?_
  refine b_get hO flX1_24 kLX_7 (v := .ref (ad 8)) rfl dX1_valueOf_57 ?_
  refine b_iconst hO dX1_valueOf_60 ic_i_2 ?_
  refine b_aload_n hO dX1_valueOf_61 0 rfl rfl ?_
  refine b_get hO flX1_9 kLX_7 (v := .int (gI _ 897)) rfl dX1_valueOf_62 ?_
  refine b_iast hO kLX_8 (n := 6) rfl dX1_valueOf_65 ?_
  refine b_bnd (fun M65 => ?_)
  refine b_aload_n hO dX1_valueOf_66 0 rfl rfl ?_
  refine b_get hO flX1_24 kLX_7 (v := .ref (ad 8)) rfl dX1_valueOf_67 ?_
  refine b_iconst hO dX1_valueOf_70 ic_i_3 ?_
  refine b_aload_n hO dX1_valueOf_71 0 rfl rfl ?_
  refine b_get hO flX1_21 kLX_7 (v := .int (gI _ 900)) rfl dX1_valueOf_72 ?_
  refine b_iast hO kLX_8 (n := 6) rfl dX1_valueOf_75 ?_
  refine b_bnd (fun M75 => ?_)
  refine b_aload_n hO dX1_valueOf_76 0 rfl rfl ?_
  refine b_get hO flX1_24 kLX_7 (v := .ref (ad 8)) rfl dX1_valueOf_77 ?_
  refine b_iconst hO dX1_valueOf_80 ic_i_4 ?_
  refine b_iload_n hO dX1_valueOf_81 2 rfl rfl ?_
  refine b_if_eq hO dX1_valueOf_82 (tgt := 89) (by decide) ?_ ?_
  · refine b_iconst hO dX1_valueOf_89 ic_i_0 ?_
    exact tfX1_valueOf_90 n0 q1 hq1 hO _ _ _ _
  · refine b_iconst hO dX1_valueOf_85 ic_i_1 ?_
    refine b_goto hO dX1_valueOf_86 (tgt := 90) (by decide) ?_
    exact tfX1_valueOf_90 n0 q1 hq1 hO _ _ _ _
theorem tfX1_valueOf_19 (n0 : Nat) (q1 : Nat) (hq1 : isK LX q1 0) (hO : OKc p (rmL 3) s m args meth c LX D cy ad cX1_valueOf RX1 5 3 (some .int)) (u0 : Int32) (M : Mem) : BL p l e (rmL 3) s m args below meth c LX D cy ad 5 (QI LX D cy ad) 19 [(0, .ref (ad 7)), (1, .ref (ad q1))] [.int u0] M (fX1_valueOf_19 n0 q1 u0 M) := by
  unfold fX1_valueOf_19
  refine b_istore_n hO dX1_valueOf_19 rfl (by decide) (lv' := [(2, .int _), (0, .ref _), (1, .ref _)]) rfl ?_
  refine b_aload_n hO dX1_valueOf_20 1 rfl rfl ?_
  refine b_get hO flX1_24 kLX_7 (v := .ref (ad 8)) rfl dX1_valueOf_21 ?_
  refine b_iconst hO dX1_valueOf_24 ic_i_0 ?_
  refine b_iload_n hO dX1_valueOf_25 0 rfl rfl ?_
  refine b_if_eq hO dX1_valueOf_26 (tgt := 33) (by decide) ?_ ?_
  · refine b_aload_n hO dX1_valueOf_33 1 rfl rfl ?_
    refine b_getR hO flX1_34 kLX_7 (id := 896) rfl rfl (rk := 9) rfl (by decide) dX1_valueOf_34 (fun hg1 => ?_)
    refine b_get hO flX1_58 hg1 (v := .ref (ad ((gR M 896) + 2))) rfl dX1_valueOf_37 ?_
    refine b_aload_n hO dX1_valueOf_40 1 rfl rfl ?_
    refine b_get hO flX1_15 kLX_7 (v := .int (gI _ 898)) rfl dX1_valueOf_41 ?_
    refine b_iald hO (kt_9_2 hg1) (n := 6) (lt_9_2 hg1) dX1_valueOf_44 ?_
    refine b_sub [1, 2, 0] rfl ?_
    exact tfX1_valueOf_45 n0 q1 hq1 hO _ _ _ _
  · refine b_iconst hO dX1_valueOf_29 ic_i_0 ?_
    refine b_goto hO dX1_valueOf_30 (tgt := 45) (by decide) ?_
    refine b_sub [1, 2, 0] rfl ?_
    exact tfX1_valueOf_45 n0 q1 hq1 hO _ _ _ _
theorem tfX1_valueOf (n0 : Nat) (q1 : Nat) (hq1 : isK LX q1 0) (hO : OKc p (rmL 3) s m args meth c LX D cy ad cX1_valueOf RX1 5 3 (some .int)) (M : Mem) : BL p l e (rmL 3) s m args below meth c LX D cy ad 5 (QI LX D cy ad) 0 [(0, .ref (ad 7)), (1, .ref (ad q1))] [] M (fX1_valueOf n0 q1 M) := by
  unfold fX1_valueOf
  refine b_aload_n hO dX1_valueOf_0 0 rfl rfl ?_
  refine b_getR hO flX1_34 kLX_7 (id := 896) rfl rfl (rk := 9) rfl (by decide) dX1_valueOf_1 (fun hg1 => ?_)
  refine b_aload_n hO dX1_valueOf_4 0 rfl rfl ?_
  refine b_get hO flX1_15 kLX_7 (v := .int (gI _ 898)) rfl dX1_valueOf_5 ?_
  refine b_callVI hO mdX9_isThing mvX9_isThing w576 (ci := 9) rfl rfl (by decide) hg1 (As := [.int _]) (st := []) (ctX9_isThing n0 _ hg1 hO.2.2.2.2.2.2.1 _ _) (Nat.le_of_ble_eq_true rfl) rfl rfl (Nat.le_of_ble_eq_true rfl) dX1_valueOf_8 (fun z8 => ?_)
  refine b_if_ne hO dX1_valueOf_11 (tgt := 18) (by decide) ?_ ?_
  · refine b_iconst hO dX1_valueOf_18 ic_i_0 ?_
    exact tfX1_valueOf_19 n0 q1 hq1 hO _ _
  · refine b_iconst hO dX1_valueOf_14 ic_i_1 ?_
    refine b_goto hO dX1_valueOf_15 (tgt := 19) (by decide) ?_
    exact tfX1_valueOf_19 n0 q1 hq1 hO _ _
theorem ctX1_valueOf (n0 : Nat) (q1 : Nat) (hq1 : isK LX q1 0) (hI : Inj LX ad) (M : Mem) : CT l LX D cy ad yX1_valueOf cX1_valueOf 5 (some .int) 3 (QI LX D cy ad) [.ref (ad 7), .ref (ad q1)] M (fX1_valueOf n0 q1 M) :=
  CT.mk LXok hI (by decide) (Nat.le_of_ble_eq_true rfl) (fun hO => tfX1_valueOf n0 q1 hq1 hO M)
/-! X1_hourNow -/
def fX1_hourNow_57 (n0 : Nat) (x1 : Int32) (M : Mem) : Option (Int32 × Mem) :=
  some ((imax (0 : Int32) (imin (23 : Int32) x1)), M)
def fX1_hourNow (n0 : Nat) (M : Mem) : Option (Int32 × Mem) :=
  (fX0_isTold n0 ((gR M 896) + 12) M).bind fun z9 =>
  if z9.1 = 0 then
    (fX9_isThing n0 (gR z9.2 896) (gI z9.2 898) z9.2).bind fun z38 =>
    if z38.1 = 0 then
      fX1_hourNow_57 n0 (0 : Int32) z38.2
    else
      if oob (gI z38.2 898) 6 then none else
      bnd (gA z38.2 ((gR z38.2 896) + 2) (Int32.toNatClampNeg (gI z38.2 898))) fun x1_56 =>
      fX1_hourNow_57 n0 x1_56 z38.2
  else
    (fX1_valueOf n0 ((gR z9.2 896) + 12) z9.2).bind fun z23 =>
    fX1_hourNow_57 n0 z23.1 z23.2
theorem tfX1_hourNow_57 (n0 : Nat) (hO : OKc p (rmL 4) s m args meth c LX D cy ad cX1_hourNow RX1 2 4 (some .int)) (x1 : Int32) (M : Mem) : BL p l e (rmL 4) s m args below meth c LX D cy ad 2 (QI LX D cy ad) 57 [(1, .int x1)] [] M (fX1_hourNow_57 n0 x1 M) := by
  unfold fX1_hourNow_57
  refine b_iconst hO dX1_hourNow_57 ic_i_0 ?_
  refine b_bipush hO dX1_hourNow_58 ic_b_23 ?_
  refine b_iload_n hO dX1_hourNow_60 0 rfl rfl ?_
  refine b_mmin hO w590 w591 w136 wm592 (by first | decide | omega) (Nat.le_of_ble_eq_true rfl) dX1_hourNow_61 ?_
  refine b_mmax hO w593 w594 w136 wm595 (by first | decide | omega) (Nat.le_of_ble_eq_true rfl) dX1_hourNow_64 ?_
  exact b_iret hO dX1_hourNow_67
theorem tfX1_hourNow (n0 : Nat) (hO : OKc p (rmL 4) s m args meth c LX D cy ad cX1_hourNow RX1 2 4 (some .int)) (M : Mem) : BL p l e (rmL 4) s m args below meth c LX D cy ad 2 (QI LX D cy ad) 0 [(0, .ref (ad 7))] [] M (fX1_hourNow n0 M) := by
  unfold fX1_hourNow
  refine b_iconst hO dX1_hourNow_0 ic_i_0 ?_
  refine b_istore_n hO dX1_hourNow_1 rfl (by decide) (lv' := [(1, .int _), (0, .ref _)]) rfl ?_
  refine b_aload_n hO dX1_hourNow_2 1 rfl rfl ?_
  refine b_getR hO flX1_34 kLX_7 (id := 896) rfl rfl (rk := 9) rfl (by decide) dX1_hourNow_3 (fun hg1 => ?_)
  refine b_get hO flX1_38 hg1 (v := .ref (ad ((gR M 896) + 12))) rfl dX1_hourNow_6 ?_
  refine b_callVI hO mdX0_isTold mvX0_isTold w568 (ci := 0) rfl rfl (by decide) (kt_9_12 hg1) (As := []) (st := []) (ctX0_isTold n0 _ (kt_9_12 hg1) hO.2.2.2.2.2.2.1 _) (Nat.le_of_ble_eq_true rfl) rfl rfl (Nat.le_of_ble_eq_true rfl) dX1_hourNow_9 (fun z9 => ?_)
  refine b_if_eq hO dX1_hourNow_12 (tgt := 30) (by decide) ?_ ?_
  · refine b_aload_n hO dX1_hourNow_30 1 rfl rfl ?_
    refine b_getR hO flX1_34 kLX_7 (id := 896) rfl rfl (rk := 9) rfl (by decide) dX1_hourNow_31 (fun hg2 => ?_)
    refine b_aload_n hO dX1_hourNow_34 1 rfl rfl ?_
    refine b_get hO flX1_15 kLX_7 (v := .int (gI _ 898)) rfl dX1_hourNow_35 ?_
    refine b_callVI hO mdX9_isThing mvX9_isThing w576 (ci := 9) rfl rfl (by decide) hg2 (As := [.int _]) (st := []) (ctX9_isThing n0 _ hg2 hO.2.2.2.2.2.2.1 _ _) (Nat.le_of_ble_eq_true rfl) rfl rfl (Nat.le_of_ble_eq_true rfl) dX1_hourNow_38 (fun z38 => ?_)
    refine b_if_eq hO dX1_hourNow_41 (tgt := 57) (by decide) ?_ ?_
    · refine b_sub [0] rfl ?_
      exact tfX1_hourNow_57 n0 hO _ _
    · refine b_aload_n hO dX1_hourNow_44 1 rfl rfl ?_
      refine b_getR hO flX1_34 kLX_7 (id := 896) rfl rfl (rk := 9) rfl (by decide) dX1_hourNow_45 (fun hg3 => ?_)
      refine b_get hO flX1_58 hg3 (v := .ref (ad ((gR z38.2 896) + 2))) rfl dX1_hourNow_48 ?_
      refine b_aload_n hO dX1_hourNow_51 1 rfl rfl ?_
      refine b_get hO flX1_15 kLX_7 (v := .int (gI _ 898)) rfl dX1_hourNow_52 ?_
      refine b_iald hO (kt_9_2 hg3) (n := 6) (lt_9_2 hg3) dX1_hourNow_55 ?_
      refine b_topI (fun x1_56 => ?_)
      refine b_istore_n hO dX1_hourNow_56 rfl (by decide) (lv' := [(1, .int _), (0, .ref _)]) rfl ?_
      refine b_sub [0] rfl ?_
      exact tfX1_hourNow_57 n0 hO _ _
  · refine b_aload_n hO dX1_hourNow_15 1 rfl rfl ?_
    refine b_aload_n hO dX1_hourNow_16 1 rfl rfl ?_
    refine b_getR hO flX1_34 kLX_7 (id := 896) rfl rfl (rk := 9) rfl (by decide) dX1_hourNow_17 (fun hg4 => ?_)
    refine b_get hO flX1_38 hg4 (v := .ref (ad ((gR z9.2 896) + 12))) rfl dX1_hourNow_20 ?_
    refine b_callVI hO mdX1_valueOf mvX1_valueOf w572 (ci := 1) rfl rfl (by decide) kLX_7 (As := [.ref _]) (st := []) (ctX1_valueOf n0 _ (kt_9_12 hg4) hO.2.2.2.2.2.2.1 _) (Nat.le_of_ble_eq_true rfl) rfl rfl (Nat.le_of_ble_eq_true rfl) dX1_hourNow_23 (fun z23 => ?_)
    refine b_istore_n hO dX1_hourNow_26 rfl (by decide) (lv' := [(1, .int _), (0, .ref _)]) rfl ?_
    refine b_goto hO dX1_hourNow_27 (tgt := 57) (by decide) ?_
    refine b_sub [0] rfl ?_
    exact tfX1_hourNow_57 n0 hO _ _
theorem ctX1_hourNow (n0 : Nat) (hI : Inj LX ad) (M : Mem) : CT l LX D cy ad yX1_hourNow cX1_hourNow 2 (some .int) 4 (QI LX D cy ad) [.ref (ad 7)] M (fX1_hourNow n0 M) :=
  CT.mk LXok hI (by decide) (Nat.le_of_ble_eq_true rfl) (fun hO => tfX1_hourNow n0 hO M)
/-! X1_goOn -/
def fX1_goOn_106 (n0 : Nat) (u0 : Int32) (M : Mem) : Option (Mem) :=
  if u0 = 0 then
    some M
  else
    bnd (sI M 898 (-1 : Int32)) fun M113 =>
    some (sI M113 899 (0 : Int32))
def fX1_goOn (n0 : Nat) (M : Mem) : Option (Mem) :=
  bnd (sI M 900 (imin (9999 : Int32) ((gI M 900) + (1 : Int32)))) fun M13 =>
  bnd (sI M13 899 (imin (999 : Int32) ((gI M13 899) + (1 : Int32)))) fun M29 =>
  (fX9_isThing n0 (gR M29 896) (gI M29 898) M29).bind fun z40 =>
  if z40.1 = 0 then
    some z40.2
  else
    (fX0_isTold n0 ((gR z40.2 896) + 14) z40.2).bind fun z54 =>
    if z54.1 = 0 then
      if oob (gI z54.2 898) 6 then none else
      if (gI z54.2 899) < (gA z54.2 ((gR z54.2 896) + 3) (Int32.toNatClampNeg (gI z54.2 898))) then
        fX1_goOn_106 n0 (0 : Int32) z54.2
      else
        fX1_goOn_106 n0 (1 : Int32) z54.2
    else
      (fX1_valueOf n0 ((gR z54.2 896) + 14) z54.2).bind fun z68 =>
      if z68.1 = 0 then
        fX1_goOn_106 n0 (0 : Int32) z68.2
      else
        fX1_goOn_106 n0 (1 : Int32) z68.2
theorem tfX1_goOn_106 (n0 : Nat) (hO : OKc p (rmL 4) s m args meth c LX D cy ad cX1_goOn RX1 2 4 none) (u0 : Int32) (M : Mem) : BL p l e (rmL 4) s m args below meth c LX D cy ad 2 (QV LX D cy ad) 106 [(0, .ref (ad 7))] [.int u0] M (fX1_goOn_106 n0 u0 M) := by
  unfold fX1_goOn_106
  refine b_istore_n hO dX1_goOn_106 rfl (by decide) (lv' := [(1, .int _), (0, .ref _)]) rfl ?_
  refine b_iload_n hO dX1_goOn_107 0 rfl rfl ?_
  refine b_if_eq hO dX1_goOn_108 (tgt := 121) (by decide) ?_ ?_
  · exact b_vret hO dX1_goOn_121
  · refine b_aload_n hO dX1_goOn_111 1 rfl rfl ?_
    refine b_iconst hO dX1_goOn_112 ic_i_m1 ?_
    refine b_putI hO flX1_15 kLX_7 rfl rfl rfl (id := 898) rfl dX1_goOn_113 ?_
    refine b_bnd (fun M113 => ?_)
    refine b_aload_n hO dX1_goOn_116 1 rfl rfl ?_
    refine b_iconst hO dX1_goOn_117 ic_i_0 ?_
    refine b_putI hO flX1_18 kLX_7 rfl rfl rfl (id := 899) rfl dX1_goOn_118 ?_
    exact b_vret hO dX1_goOn_121
theorem tfX1_goOn (n0 : Nat) (hO : OKc p (rmL 4) s m args meth c LX D cy ad cX1_goOn RX1 2 4 none) (M : Mem) : BL p l e (rmL 4) s m args below meth c LX D cy ad 2 (QV LX D cy ad) 0 [(0, .ref (ad 7))] [] M (fX1_goOn n0 M) := by
  unfold fX1_goOn
  refine b_aload_n hO dX1_goOn_0 0 rfl rfl ?_
  refine b_sipush hO dX1_goOn_1 ic_s_9999 ?_
  refine b_aload_n hO dX1_goOn_4 0 rfl rfl ?_
  refine b_get hO flX1_21 kLX_7 (v := .int (gI _ 900)) rfl dX1_goOn_5 ?_
  refine b_iconst hO dX1_goOn_8 ic_i_1 ?_
  refine b_iadd hO dX1_goOn_9 ?_
  refine b_mmin hO w590 w591 w136 wm592 (by first | decide | omega) (Nat.le_of_ble_eq_true rfl) dX1_goOn_10 ?_
  refine b_putI hO flX1_21 kLX_7 rfl rfl rfl (id := 900) rfl dX1_goOn_13 ?_
  refine b_bnd (fun M13 => ?_)
  refine b_aload_n hO dX1_goOn_16 0 rfl rfl ?_
  refine b_sipush hO dX1_goOn_17 ic_s_999 ?_
  refine b_aload_n hO dX1_goOn_20 0 rfl rfl ?_
  refine b_get hO flX1_18 kLX_7 (v := .int (gI _ 899)) rfl dX1_goOn_21 ?_
  refine b_iconst hO dX1_goOn_24 ic_i_1 ?_
  refine b_iadd hO dX1_goOn_25 ?_
  refine b_mmin hO w590 w591 w136 wm592 (by first | decide | omega) (Nat.le_of_ble_eq_true rfl) dX1_goOn_26 ?_
  refine b_putI hO flX1_18 kLX_7 rfl rfl rfl (id := 899) rfl dX1_goOn_29 ?_
  refine b_bnd (fun M29 => ?_)
  refine b_aload_n hO dX1_goOn_32 0 rfl rfl ?_
  refine b_getR hO flX1_34 kLX_7 (id := 896) rfl rfl (rk := 9) rfl (by decide) dX1_goOn_33 (fun hg1 => ?_)
  refine b_aload_n hO dX1_goOn_36 0 rfl rfl ?_
  refine b_get hO flX1_15 kLX_7 (v := .int (gI _ 898)) rfl dX1_goOn_37 ?_
  refine b_callVI hO mdX9_isThing mvX9_isThing w576 (ci := 9) rfl rfl (by decide) hg1 (As := [.int _]) (st := []) (ctX9_isThing n0 _ hg1 hO.2.2.2.2.2.2.1 _ _) (Nat.le_of_ble_eq_true rfl) rfl rfl (Nat.le_of_ble_eq_true rfl) dX1_goOn_40 (fun z40 => ?_)
  refine b_if_ne hO dX1_goOn_43 (tgt := 47) (by decide) ?_ ?_
  · refine b_aload_n hO dX1_goOn_47 0 rfl rfl ?_
    refine b_getR hO flX1_34 kLX_7 (id := 896) rfl rfl (rk := 9) rfl (by decide) dX1_goOn_48 (fun hg2 => ?_)
    refine b_get hO flX1_70 hg2 (v := .ref (ad ((gR z40.2 896) + 14))) rfl dX1_goOn_51 ?_
    refine b_callVI hO mdX0_isTold mvX0_isTold w568 (ci := 0) rfl rfl (by decide) (kt_9_14 hg2) (As := []) (st := []) (ctX0_isTold n0 _ (kt_9_14 hg2) hO.2.2.2.2.2.2.1 _) (Nat.le_of_ble_eq_true rfl) rfl rfl (Nat.le_of_ble_eq_true rfl) dX1_goOn_54 (fun z54 => ?_)
    refine b_if_eq hO dX1_goOn_57 (tgt := 82) (by decide) ?_ ?_
    · refine b_aload_n hO dX1_goOn_82 0 rfl rfl ?_
      refine b_get hO flX1_18 kLX_7 (v := .int (gI _ 899)) rfl dX1_goOn_83 ?_
      refine b_aload_n hO dX1_goOn_86 0 rfl rfl ?_
      refine b_getR hO flX1_34 kLX_7 (id := 896) rfl rfl (rk := 9) rfl (by decide) dX1_goOn_87 (fun hg3 => ?_)
      refine b_get hO flX1_73 hg3 (v := .ref (ad ((gR z54.2 896) + 3))) rfl dX1_goOn_90 ?_
      refine b_aload_n hO dX1_goOn_93 0 rfl rfl ?_
      refine b_get hO flX1_15 kLX_7 (v := .int (gI _ 898)) rfl dX1_goOn_94 ?_
      refine b_iald hO (kt_9_3 hg3) (n := 6) (lt_9_3 hg3) dX1_goOn_97 ?_
      refine b_icmp_lt hO dX1_goOn_98 (tgt := 105) (by decide) ?_ ?_
      · refine b_iconst hO dX1_goOn_105 ic_i_0 ?_
        exact tfX1_goOn_106 n0 hO _ _
      · refine b_iconst hO dX1_goOn_101 ic_i_1 ?_
        refine b_goto hO dX1_goOn_102 (tgt := 106) (by decide) ?_
        exact tfX1_goOn_106 n0 hO _ _
    · refine b_aload_n hO dX1_goOn_60 0 rfl rfl ?_
      refine b_aload_n hO dX1_goOn_61 0 rfl rfl ?_
      refine b_getR hO flX1_34 kLX_7 (id := 896) rfl rfl (rk := 9) rfl (by decide) dX1_goOn_62 (fun hg4 => ?_)
      refine b_get hO flX1_70 hg4 (v := .ref (ad ((gR z54.2 896) + 14))) rfl dX1_goOn_65 ?_
      refine b_callVI hO mdX1_valueOf mvX1_valueOf w572 (ci := 1) rfl rfl (by decide) kLX_7 (As := [.ref _]) (st := []) (ctX1_valueOf n0 _ (kt_9_14 hg4) hO.2.2.2.2.2.2.1 _) (Nat.le_of_ble_eq_true rfl) rfl rfl (Nat.le_of_ble_eq_true rfl) dX1_goOn_68 (fun z68 => ?_)
      refine b_if_eq hO dX1_goOn_71 (tgt := 78) (by decide) ?_ ?_
      · refine b_iconst hO dX1_goOn_78 ic_i_0 ?_
        refine b_goto hO dX1_goOn_79 (tgt := 106) (by decide) ?_
        exact tfX1_goOn_106 n0 hO _ _
      · refine b_iconst hO dX1_goOn_74 ic_i_1 ?_
        refine b_goto hO dX1_goOn_75 (tgt := 106) (by decide) ?_
        exact tfX1_goOn_106 n0 hO _ _
  · exact b_vret hO dX1_goOn_46
theorem ctX1_goOn (n0 : Nat) (hI : Inj LX ad) (M : Mem) : CT l LX D cy ad yX1_goOn cX1_goOn 2 none 4 (QV LX D cy ad) [.ref (ad 7)] M (fX1_goOn n0 M) :=
  CT.mk LXok hI (by decide) (Nat.le_of_ble_eq_true rfl) (fun hO => tfX1_goOn n0 hO M)
/-! X1_foresee -/
def fX1_foresee_38 (n0 : Nat) (q1 : Nat) (k23 : Int32 → Int32 → Mem → Option (Int32 × Mem)) (x3 : Int32) (x4 : Int32) (M : Mem) : Option (Int32 × Mem) :=
  (fX1_hourNow n0 M).bind fun z42 =>
  if oob x4 (LX.ln q1) then none else
  bnd (sA z42.2 q1 (Int32.toNatClampNeg x4) z42.1) fun M45 =>
  k23 x3 (x4 + (1 : Int32)) M45
def bX1_foresee_23 (n0 : Nat) (q1 : Nat) (k23 : Int32 → Int32 → Mem → Option (Int32 × Mem)) (x3 : Int32) (x4 : Int32) (M : Mem) : Option (Int32 × Mem) :=
  if x3 < x4 then
    some (x3, M)
  else
    if x4 ≤ 0 then
      fX1_foresee_38 n0 q1 k23 x3 x4 M
    else
      (fX1_goOn n0 M).bind fun z35 =>
      fX1_foresee_38 n0 q1 k23 x3 x4 z35
def fX1_foresee_23 (n0 : Nat) (q1 : Nat) : Int32 → Int32 → Mem → Option (Int32 × Mem) := loopN (bX1_foresee_23 n0 q1) (fun _ _ _ => none) n0
def fX1_foresee (n0 : Nat) (q1 : Nat) (x2 : Int32) (M : Mem) : Option (Int32 × Mem) :=
  bnd (imin (imin x2 ((Int32.ofNat (LX.ln q1)) - (1 : Int32))) ((9999 : Int32) - (gI M 900))) fun x3_19 =>
  fX1_foresee_23 n0 q1 x3_19 (0 : Int32) M
theorem tfX1_foresee_38 (n0 : Nat) (q1 : Nat) (hq1 : isK LX q1 13) (hO : OKc p (rmL 5) s m args meth c LX D cy ad cX1_foresee RX1 5 5 (some .int)) (k23 : Int32 → Int32 → Mem → Option (Int32 × Mem)) (hk23 : ∀ (x3 : Int32) (x4 : Int32) (M : Mem), BL p l e (rmL 5) s m args below meth c LX D cy ad 5 (QI LX D cy ad) 23 [(0, .ref (ad 7)), (1, .ref (ad q1)), (3, .int x3), (4, .int x4)] [] M (k23 x3 x4 M)) (x3 : Int32) (x4 : Int32) (M : Mem) : BL p l e (rmL 5) s m args below meth c LX D cy ad 5 (QI LX D cy ad) 38 [(0, .ref (ad 7)), (1, .ref (ad q1)), (3, .int x3), (4, .int x4)] [] M (fX1_foresee_38 n0 q1 k23 x3 x4 M) := by
  unfold fX1_foresee_38
  refine b_aload_n hO dX1_foresee_38 1 rfl rfl ?_
  refine b_iload hO dX1_foresee_39 3 rfl ?_
  refine b_aload_n hO dX1_foresee_41 0 rfl rfl ?_
  refine b_callVI hO mdX1_hourNow mvX1_hourNow w978 (ci := 1) rfl rfl (by decide) kLX_7 (As := []) (st := [.int _, .ref _]) (ctX1_hourNow n0 hO.2.2.2.2.2.2.1 _) (Nat.le_of_ble_eq_true rfl) rfl rfl (Nat.le_of_ble_eq_true rfl) dX1_foresee_42 (fun z42 => ?_)
  refine b_iast hO hq1 (n := (LX.ln q1)) rfl dX1_foresee_45 ?_
  refine b_bnd (fun M45 => ?_)
  refine b_iinc hO dX1_foresee_46 3 rfl ic_i_1 (by decide) (lv' := [(4, .int _), (0, .ref _), (1, .ref _), (3, .int _)]) rfl ?_
  refine b_goto hO dX1_foresee_49 (tgt := 23) (by decide) ?_
  refine b_sub [1, 2, 3, 0] rfl ?_
  exact hk23 _ _ _
theorem tbX1_foresee_23 (n0 : Nat) (q1 : Nat) (hq1 : isK LX q1 13) (hO : OKc p (rmL 5) s m args meth c LX D cy ad cX1_foresee RX1 5 5 (some .int)) (k23 : Int32 → Int32 → Mem → Option (Int32 × Mem)) (hk23 : ∀ (x3 : Int32) (x4 : Int32) (M : Mem), BL p l e (rmL 5) s m args below meth c LX D cy ad 5 (QI LX D cy ad) 23 [(0, .ref (ad 7)), (1, .ref (ad q1)), (3, .int x3), (4, .int x4)] [] M (k23 x3 x4 M)) (x3 : Int32) (x4 : Int32) (M : Mem) : BL p l e (rmL 5) s m args below meth c LX D cy ad 5 (QI LX D cy ad) 23 [(0, .ref (ad 7)), (1, .ref (ad q1)), (3, .int x3), (4, .int x4)] [] M (bX1_foresee_23 n0 q1 k23 x3 x4 M) := by
  unfold bX1_foresee_23
  refine b_iload hO dX1_foresee_23 3 rfl ?_
  refine b_iload_n hO dX1_foresee_25 2 rfl rfl ?_
  refine b_icmp_gt hO dX1_foresee_26 (tgt := 52) (by decide) ?_ ?_
  · refine b_iload_n hO dX1_foresee_52 2 rfl rfl ?_
    exact b_iret hO dX1_foresee_53
  · refine b_iload hO dX1_foresee_29 3 rfl ?_
    refine b_if_le hO dX1_foresee_31 (tgt := 38) (by decide) ?_ ?_
    · exact tfX1_foresee_38 n0 q1 hq1 hO k23 hk23 _ _ _
    · refine b_aload_n hO dX1_foresee_34 0 rfl rfl ?_
      refine b_callVV hO mdX1_goOn mvX1_goOn w974 (ci := 1) rfl rfl (by decide) kLX_7 (As := []) (st := []) (ctX1_goOn n0 hO.2.2.2.2.2.2.1 _) (Nat.le_of_ble_eq_true rfl) rfl rfl (Nat.le_of_ble_eq_true rfl) dX1_foresee_35 (fun z35 => ?_)
      exact tfX1_foresee_38 n0 q1 hq1 hO k23 hk23 _ _ _
theorem lX1_foresee_23 (n0 : Nat) (q1 : Nat) (hq1 : isK LX q1 13) (hO : OKc p (rmL 5) s m args meth c LX D cy ad cX1_foresee RX1 5 5 (some .int)) : ∀ (w : Nat) (x3 : Int32) (x4 : Int32) (M : Mem), BL p l e (rmL 5) s m args below meth c LX D cy ad 5 (QI LX D cy ad) 23 [(0, .ref (ad 7)), (1, .ref (ad q1)), (3, .int x3), (4, .int x4)] [] M (loopN (bX1_foresee_23 n0 q1) (fun _ _ _ => none) w x3 x4 M) := by
  intro w
  induction w with
  | zero =>
    intros
    exact b_none
  | succ w ih =>
    intro x3 x4 M
    exact tbX1_foresee_23 n0 q1 hq1 hO _ ih x3 x4 M
theorem tfX1_foresee_23 (n0 : Nat) (q1 : Nat) (hq1 : isK LX q1 13) (hO : OKc p (rmL 5) s m args meth c LX D cy ad cX1_foresee RX1 5 5 (some .int)) (x3 : Int32) (x4 : Int32) (M : Mem) : BL p l e (rmL 5) s m args below meth c LX D cy ad 5 (QI LX D cy ad) 23 [(0, .ref (ad 7)), (1, .ref (ad q1)), (3, .int x3), (4, .int x4)] [] M (fX1_foresee_23 n0 q1 x3 x4 M) := lX1_foresee_23 n0 q1 hq1 hO n0 x3 x4 M
theorem tfX1_foresee (n0 : Nat) (q1 : Nat) (hq1 : isK LX q1 13) (hO : OKc p (rmL 5) s m args meth c LX D cy ad cX1_foresee RX1 5 5 (some .int)) (x2 : Int32) (M : Mem) : BL p l e (rmL 5) s m args below meth c LX D cy ad 5 (QI LX D cy ad) 0 [(0, .ref (ad 7)), (1, .ref (ad q1)), (2, .int x2)] [] M (fX1_foresee n0 q1 x2 M) := by
  unfold fX1_foresee
  refine b_iload_n hO dX1_foresee_0 2 rfl rfl ?_
  refine b_aload_n hO dX1_foresee_1 1 rfl rfl ?_
  refine b_alen hO hq1 rfl dX1_foresee_2 ?_
  refine b_iconst hO dX1_foresee_3 ic_i_1 ?_
  refine b_isub hO dX1_foresee_4 ?_
  refine b_mmin hO w590 w591 w136 wm592 (by first | decide | omega) (Nat.le_of_ble_eq_true rfl) dX1_foresee_5 ?_
  refine b_sipush hO dX1_foresee_8 ic_s_9999 ?_
  refine b_aload_n hO dX1_foresee_11 0 rfl rfl ?_
  refine b_get hO flX1_21 kLX_7 (v := .int (gI _ 900)) rfl dX1_foresee_12 ?_
  refine b_isub hO dX1_foresee_15 ?_
  refine b_mmin hO w590 w591 w136 wm592 (by first | decide | omega) (Nat.le_of_ble_eq_true rfl) dX1_foresee_16 ?_
  refine b_topI (fun x3_19 => ?_)
  refine b_istore_n hO dX1_foresee_19 rfl (by decide) (lv' := [(3, .int _), (0, .ref _), (1, .ref _), (2, .int _)]) rfl ?_
  refine b_iconst hO dX1_foresee_20 ic_i_0 ?_
  refine b_istore hO dX1_foresee_21 (by decide) (lv' := [(4, .int _), (3, .int _), (0, .ref _), (1, .ref _), (2, .int _)]) rfl ?_
  refine b_sub [2, 3, 1, 0] rfl ?_
  exact tfX1_foresee_23 n0 q1 hq1 hO _ _ _
theorem ctX1_foresee (n0 : Nat) (q1 : Nat) (hq1 : isK LX q1 13) (hI : Inj LX ad) (x2 : Int32) (M : Mem) : CT l LX D cy ad yX1_foresee cX1_foresee 5 (some .int) 5 (QI LX D cy ad) [.ref (ad 7), .ref (ad q1), .int x2] M (fX1_foresee n0 q1 x2 M) :=
  CT.mk LXok hI (by decide) (Nat.le_of_ble_eq_true rfl) (fun hO => tfX1_foresee n0 q1 hq1 hO x2 M)
end
end
section
section
variable {p : Program} {l : Launch} {e : Env} {s : State} {m : MethodId} {args : Array Value} {below : List Frame} {meth : Method} {c : Code} {D : va_G} {cy : Nat → ClassId} {ad : Nat → Nat} {dd : Nat}

/-! X3_addAndAdvance -/
def fX3_addAndAdvance (n0 : Nat) (x1 : Int32) (M : Mem) : Option (Int32 × Mem) :=
  (fX0_add n0 (gR M 257) x1 M).bind fun z5 =>
  (fX8_advance n0 z5).bind fun z12 =>
  some ((1 : Int32), z12)
theorem tfX3_addAndAdvance (n0 : Nat) (hO : OKc p (rmL 4) s m args meth c LX D cy ad cX3_addAndAdvance RX3 2 4 (some .boolean)) (x1 : Int32) (M : Mem) : BL p l e (rmL 4) s m args below meth c LX D cy ad 2 (QI LX D cy ad) 0 [(0, .ref (ad 2)), (1, .int x1)] [] M (fX3_addAndAdvance n0 x1 M) := by
  unfold fX3_addAndAdvance
  refine b_aload_n hO dX3_addAndAdvance_0 0 rfl rfl ?_
  refine b_getR hO flX3_19 kLX_2 (id := 257) rfl rfl (rk := 0) rfl (by decide) dX3_addAndAdvance_1 (fun hg1 => ?_)
  refine b_iload_n hO dX3_addAndAdvance_4 1 rfl rfl ?_
  refine b_callVV hO mdX0_add mvX0_add w844 (ci := 0) rfl rfl (by decide) hg1 (As := [.int _]) (st := []) (ctX0_add n0 _ hg1 hO.2.2.2.2.2.2.1 _ _) (Nat.le_of_ble_eq_true rfl) rfl rfl (Nat.le_of_ble_eq_true rfl) dX3_addAndAdvance_5 (fun z5 => ?_)
  refine b_aload_n hO dX3_addAndAdvance_8 0 rfl rfl ?_
  refine b_get hO flX3_15 kLX_2 (v := .ref (ad 3)) rfl dX3_addAndAdvance_9 ?_
  refine b_callVV hO mdX8_advance mvX8_advance w848 (ci := 8) rfl rfl (by decide) kLX_3 (As := []) (st := []) (ctX8_advance n0 hO.2.2.2.2.2.2.1 _) (Nat.le_of_ble_eq_true rfl) rfl rfl (Nat.le_of_ble_eq_true rfl) dX3_addAndAdvance_12 (fun z12 => ?_)
  refine b_iconst hO dX3_addAndAdvance_15 ic_i_1 ?_
  exact b_zretc hO (Or.inr rfl) dX3_addAndAdvance_16
theorem ctX3_addAndAdvance (n0 : Nat) (hI : Inj LX ad) (x1 : Int32) (M : Mem) : CT l LX D cy ad yX3_addAndAdvance cX3_addAndAdvance 2 (some .boolean) 4 (QI LX D cy ad) [.ref (ad 2), .int x1] M (fX3_addAndAdvance n0 x1 M) :=
  CT.mk LXok hI (by decide) (Nat.le_of_ble_eq_true rfl) (fun hO => tfX3_addAndAdvance n0 hO x1 M)
/-! X3_goIn -/
def fX3_goIn (n0 : Nat) (x1 : Int32) (x2 : Int32) (M : Mem) : Option (Int32 × Mem) :=
  if (gI M 386) = x1 then
    if x2 < (7 : Int32) then
      (fX8_advance n0 M).bind fun z45 =>
      some ((1 : Int32), z45)
    else
      (fX8_fail n0 (5 : Int32) (gI M 387) M).bind fun z37 =>
      if z37.1 = 0 ∨ z37.1 = 1 then some (z37.1, z37.2) else none
  else
    (fX8_failHere n0 M).bind fun z15 =>
    if z15.1 = 0 ∨ z15.1 = 1 then some (z15.1, z15.2) else none
theorem tfX3_goIn (n0 : Nat) (hO : OKc p (rmL 4) s m args meth c LX D cy ad cX3_goIn RX3 3 4 (some .boolean)) (x1 : Int32) (x2 : Int32) (M : Mem) : BL p l e (rmL 4) s m args below meth c LX D cy ad 3 (QI LX D cy ad) 0 [(0, .ref (ad 2)), (1, .int x1), (2, .int x2)] [] M (fX3_goIn n0 x1 x2 M) := by
  unfold fX3_goIn
  refine b_aload_n hO dX3_goIn_0 0 rfl rfl ?_
  refine b_get hO flX3_15 kLX_2 (v := .ref (ad 3)) rfl dX3_goIn_1 ?_
  refine b_get hO flX3_30 kLX_3 (v := .int (gI _ 386)) rfl dX3_goIn_4 ?_
  refine b_iload_n hO dX3_goIn_7 1 rfl rfl ?_
  refine b_icmp_eq hO dX3_goIn_8 (tgt := 19) (by decide) ?_ ?_
  · refine b_iload_n hO dX3_goIn_19 2 rfl rfl ?_
    refine b_bipush hO dX3_goIn_20 ic_b_7 ?_
    refine b_icmp_lt hO dX3_goIn_22 (tgt := 41) (by decide) ?_ ?_
    · refine b_aload_n hO dX3_goIn_41 0 rfl rfl ?_
      refine b_get hO flX3_15 kLX_2 (v := .ref (ad 3)) rfl dX3_goIn_42 ?_
      refine b_callVV hO mdX8_advance mvX8_advance w848 (ci := 8) rfl rfl (by decide) kLX_3 (As := []) (st := []) (ctX8_advance n0 hO.2.2.2.2.2.2.1 _) (Nat.le_of_ble_eq_true rfl) rfl rfl (Nat.le_of_ble_eq_true rfl) dX3_goIn_45 (fun z45 => ?_)
      refine b_iconst hO dX3_goIn_48 ic_i_1 ?_
      exact b_zretc hO (Or.inr rfl) dX3_goIn_49
    · refine b_aload_n hO dX3_goIn_25 0 rfl rfl ?_
      refine b_get hO flX3_15 kLX_2 (v := .ref (ad 3)) rfl dX3_goIn_26 ?_
      refine b_iconst hO dX3_goIn_29 ic_i_5 ?_
      refine b_aload_n hO dX3_goIn_30 0 rfl rfl ?_
      refine b_get hO flX3_15 kLX_2 (v := .ref (ad 3)) rfl dX3_goIn_31 ?_
      refine b_get hO flX3_40 kLX_3 (v := .int (gI _ 387)) rfl dX3_goIn_34 ?_
      refine b_callVI hO mdX8_fail mvX8_fail w858 (ci := 8) rfl rfl (by decide) kLX_3 (As := [.int _, .int _]) (st := []) (ctX8_fail n0 hO.2.2.2.2.2.2.1 _ _ _) (Nat.le_of_ble_eq_true rfl) rfl rfl (Nat.le_of_ble_eq_true rfl) dX3_goIn_37 (fun z37 => ?_)
      exact b_zret hO dX3_goIn_40
  · refine b_aload_n hO dX3_goIn_11 0 rfl rfl ?_
    refine b_get hO flX3_15 kLX_2 (v := .ref (ad 3)) rfl dX3_goIn_12 ?_
    refine b_callVI hO mdX8_failHere mvX8_failHere w849 (ci := 8) rfl rfl (by decide) kLX_3 (As := []) (st := []) (ctX8_failHere n0 hO.2.2.2.2.2.2.1 _) (Nat.le_of_ble_eq_true rfl) rfl rfl (Nat.le_of_ble_eq_true rfl) dX3_goIn_15 (fun z15 => ?_)
    exact b_zret hO dX3_goIn_18
theorem ctX3_goIn (n0 : Nat) (hI : Inj LX ad) (x1 : Int32) (x2 : Int32) (M : Mem) : CT l LX D cy ad yX3_goIn cX3_goIn 3 (some .boolean) 4 (QI LX D cy ad) [.ref (ad 2), .int x1, .int x2] M (fX3_goIn n0 x1 x2 M) :=
  CT.mk LXok hI (by decide) (Nat.le_of_ble_eq_true rfl) (fun hO => tfX3_goIn n0 hO x1 x2 M)
/-! X3_add -/
def fX3_add (n0 : Nat) (x1 : Int32) (M : Mem) : Option (Int32 × Mem) :=
  (fX0_add n0 (gR M 257) x1 M).bind fun z5 =>
  some ((1 : Int32), z5)
theorem tfX3_add (n0 : Nat) (hO : OKc p (rmL 2) s m args meth c LX D cy ad cX3_add RX3 2 2 (some .boolean)) (x1 : Int32) (M : Mem) : BL p l e (rmL 2) s m args below meth c LX D cy ad 2 (QI LX D cy ad) 0 [(0, .ref (ad 2)), (1, .int x1)] [] M (fX3_add n0 x1 M) := by
  unfold fX3_add
  refine b_aload_n hO dX3_add_0 0 rfl rfl ?_
  refine b_getR hO flX3_19 kLX_2 (id := 257) rfl rfl (rk := 0) rfl (by decide) dX3_add_1 (fun hg1 => ?_)
  refine b_iload_n hO dX3_add_4 1 rfl rfl ?_
  refine b_callVV hO mdX0_add mvX0_add w844 (ci := 0) rfl rfl (by decide) hg1 (As := [.int _]) (st := []) (ctX0_add n0 _ hg1 hO.2.2.2.2.2.2.1 _ _) (Nat.le_of_ble_eq_true rfl) rfl rfl (Nat.le_of_ble_eq_true rfl) dX3_add_5 (fun z5 => ?_)
  refine b_iconst hO dX3_add_8 ic_i_1 ?_
  exact b_zretc hO (Or.inr rfl) dX3_add_9
theorem ctX3_add (n0 : Nat) (hI : Inj LX ad) (x1 : Int32) (M : Mem) : CT l LX D cy ad yX3_add cX3_add 2 (some .boolean) 2 (QI LX D cy ad) [.ref (ad 2), .int x1] M (fX3_add n0 x1 M) :=
  CT.mk LXok hI (by decide) (Nat.le_of_ble_eq_true rfl) (fun hO => tfX3_add n0 hO x1 M)
/-! X3_comparisonStep -/
def fX3_comparisonStep (n0 : Nat) (M : Mem) : Option (Int32 × Mem) :=
  if (gI M 386) = 60 then
    some ((-15 : Int32), M)
  else
  if (gI M 386) = 61 then
    some ((-17 : Int32), M)
  else
  if (gI M 386) = 62 then
    some ((-16 : Int32), M)
  else
  some ((0 : Int32), M)
theorem tfX3_comparisonStep (n0 : Nat) (hO : OKc p (rmL 1) s m args meth c LX D cy ad cX3_comparisonStep RX3 1 1 (some .int)) (M : Mem) : BL p l e (rmL 1) s m args below meth c LX D cy ad 1 (QI LX D cy ad) 0 [(0, .ref (ad 2))] [] M (fX3_comparisonStep n0 M) := by
  unfold fX3_comparisonStep
  refine b_aload_n hO dX3_comparisonStep_0 0 rfl rfl ?_
  refine b_get hO flX3_15 kLX_2 (v := .ref (ad 3)) rfl dX3_comparisonStep_1 ?_
  refine b_get hO flX3_30 kLX_3 (v := .int (gI _ 386)) rfl dX3_comparisonStep_4 ?_
  refine b_tabIn hO dX3_comparisonStep_7 (v := 60) (z := 60) (tgt := 32) (by decide) (by decide) (by decide) rfl (by decide) ?_ (fun hn0 => ?_)
  · refine b_bipush hO dX3_comparisonStep_32 ic_b_m15 ?_
    exact b_iret hO dX3_comparisonStep_34
  refine b_tabIn hO dX3_comparisonStep_7 (v := 61) (z := 61) (tgt := 38) (by decide) (by decide) (by decide) rfl (by decide) ?_ (fun hn1 => ?_)
  · refine b_bipush hO dX3_comparisonStep_38 ic_b_m17 ?_
    exact b_iret hO dX3_comparisonStep_40
  refine b_tabIn hO dX3_comparisonStep_7 (v := 62) (z := 62) (tgt := 35) (by decide) (by decide) (by decide) rfl (by decide) ?_ (fun hn2 => ?_)
  · refine b_bipush hO dX3_comparisonStep_35 ic_b_m16 ?_
    exact b_iret hO dX3_comparisonStep_37
  refine b_tabOut hO dX3_comparisonStep_7 (tgt := 41) (by omega) (by decide) ?_
  refine b_iconst hO dX3_comparisonStep_41 ic_i_0 ?_
  exact b_iret hO dX3_comparisonStep_42
theorem ctX3_comparisonStep (n0 : Nat) (hI : Inj LX ad) (M : Mem) : CT l LX D cy ad yX3_comparisonStep cX3_comparisonStep 1 (some .int) 1 (QI LX D cy ad) [.ref (ad 2)] M (fX3_comparisonStep n0 M) :=
  CT.mk LXok hI (by decide) (Nat.le_of_ble_eq_true rfl) (fun hO => tfX3_comparisonStep n0 hO M)
/-! X3_productStep -/
def fX3_productStep (n0 : Nat) (M : Mem) : Option (Int32 × Mem) :=
  if (gI M 386) = 37 then
    some ((-11 : Int32), M)
  else
  if (gI M 386) = 42 then
    some ((-9 : Int32), M)
  else
  if (gI M 386) = 47 then
    some ((-10 : Int32), M)
  else
  some ((0 : Int32), M)
theorem tfX3_productStep (n0 : Nat) (hO : OKc p (rmL 1) s m args meth c LX D cy ad cX3_productStep RX3 1 1 (some .int)) (M : Mem) : BL p l e (rmL 1) s m args below meth c LX D cy ad 1 (QI LX D cy ad) 0 [(0, .ref (ad 2))] [] M (fX3_productStep n0 M) := by
  unfold fX3_productStep
  refine b_aload_n hO dX3_productStep_0 0 rfl rfl ?_
  refine b_get hO flX3_15 kLX_2 (v := .ref (ad 3)) rfl dX3_productStep_1 ?_
  refine b_get hO flX3_30 kLX_3 (v := .int (gI _ 386)) rfl dX3_productStep_4 ?_
  refine b_lookIn hO dX3_productStep_7 (v := 37) (z := 37) (tgt := 46) (by decide) (by decide) rfl (by decide) ?_ (fun hn0 => ?_)
  · refine b_bipush hO dX3_productStep_46 ic_b_m11 ?_
    exact b_iret hO dX3_productStep_48
  refine b_lookIn hO dX3_productStep_7 (v := 42) (z := 42) (tgt := 40) (by decide) (by decide) rfl (by decide) ?_ (fun hn1 => ?_)
  · refine b_bipush hO dX3_productStep_40 ic_b_m9 ?_
    exact b_iret hO dX3_productStep_42
  refine b_lookIn hO dX3_productStep_7 (v := 47) (z := 47) (tgt := 43) (by decide) (by decide) rfl (by decide) ?_ (fun hn2 => ?_)
  · refine b_bipush hO dX3_productStep_43 ic_b_m10 ?_
    exact b_iret hO dX3_productStep_45
  refine b_lookOut hO dX3_productStep_7 (tgt := 49) (by decide) (by rw [lv_osw hn0 (by decide)]; rw [lv_osw hn1 (by decide)]; rw [lv_osw hn2 (by decide)]; rfl) (by decide) ?_
  refine b_iconst hO dX3_productStep_49 ic_i_0 ?_
  exact b_iret hO dX3_productStep_50
theorem ctX3_productStep (n0 : Nat) (hI : Inj LX ad) (M : Mem) : CT l LX D cy ad yX3_productStep cX3_productStep 1 (some .int) 1 (QI LX D cy ad) [.ref (ad 2)] M (fX3_productStep n0 M) :=
  CT.mk LXok hI (by decide) (Nat.le_of_ble_eq_true rfl) (fun hO => tfX3_productStep n0 hO M)
/-! X3_sumStep -/
def fX3_sumStep (n0 : Nat) (M : Mem) : Option (Int32 × Mem) :=
  if (gI M 386) = 43 then
    some ((-7 : Int32), M)
  else
  if (gI M 386) = 45 then
    some ((-8 : Int32), M)
  else
  some ((0 : Int32), M)
theorem tfX3_sumStep (n0 : Nat) (hO : OKc p (rmL 1) s m args meth c LX D cy ad cX3_sumStep RX3 1 1 (some .int)) (M : Mem) : BL p l e (rmL 1) s m args below meth c LX D cy ad 1 (QI LX D cy ad) 0 [(0, .ref (ad 2))] [] M (fX3_sumStep n0 M) := by
  unfold fX3_sumStep
  refine b_aload_n hO dX3_sumStep_0 0 rfl rfl ?_
  refine b_get hO flX3_15 kLX_2 (v := .ref (ad 3)) rfl dX3_sumStep_1 ?_
  refine b_get hO flX3_30 kLX_3 (v := .int (gI _ 386)) rfl dX3_sumStep_4 ?_
  refine b_lookIn hO dX3_sumStep_7 (v := 43) (z := 43) (tgt := 32) (by decide) (by decide) rfl (by decide) ?_ (fun hn0 => ?_)
  · refine b_bipush hO dX3_sumStep_32 ic_b_m7 ?_
    exact b_iret hO dX3_sumStep_34
  refine b_lookIn hO dX3_sumStep_7 (v := 45) (z := 45) (tgt := 35) (by decide) (by decide) rfl (by decide) ?_ (fun hn1 => ?_)
  · refine b_bipush hO dX3_sumStep_35 ic_b_m8 ?_
    exact b_iret hO dX3_sumStep_37
  refine b_lookOut hO dX3_sumStep_7 (tgt := 38) (by decide) (by rw [lv_osw hn0 (by decide)]; rw [lv_osw hn1 (by decide)]; rfl) (by decide) ?_
  refine b_iconst hO dX3_sumStep_38 ic_i_0 ?_
  exact b_iret hO dX3_sumStep_39
theorem ctX3_sumStep (n0 : Nat) (hI : Inj LX ad) (M : Mem) : CT l LX D cy ad yX3_sumStep cX3_sumStep 1 (some .int) 1 (QI LX D cy ad) [.ref (ad 2)] M (fX3_sumStep n0 M) :=
  CT.mk LXok hI (by decide) (Nat.le_of_ble_eq_true rfl) (fun hO => tfX3_sumStep n0 hO M)
def recOK (l : Launch) (G : Lay) (D : va_G) (cy : Nat → ClassId) (ad : Nat → Nat) (B dd : Nat) (rec : Nat → Int32 → Int32 → Mem → Option (Int32 × Mem)) : Prop :=
  (∀ (a : Int32) (M : Mem), CT l G D cy ad yX3_readSum cX3_readSum 4 (some .boolean) (B + dd) (QI G D cy ad) [.ref (ad 2), .int a] M (rec 0 a 0 M)) ∧
  (∀ (a : Int32) (M : Mem), CT l G D cy ad yX3_readProduct cX3_readProduct 4 (some .boolean) (B + dd) (QI G D cy ad) [.ref (ad 2), .int a] M (rec 1 a 0 M)) ∧
  (∀ (a : Int32) (M : Mem), CT l G D cy ad yX3_readPart cX3_readPart 2 (some .boolean) (B + dd) (QI G D cy ad) [.ref (ad 2), .int a] M (rec 2 a 0 M)) ∧
  (∀ (a b : Int32) (M : Mem), CT l G D cy ad yX3_readPair cX3_readPair 3 (some .boolean) (B + dd) (QI G D cy ad) [.ref (ad 2), .int a, .int b] M (rec 3 a b M)) ∧
  (∀ (a : Int32) (M : Mem), CT l G D cy ad yX3_readChoice cX3_readChoice 2 (some .boolean) (B + dd) (QI G D cy ad) [.ref (ad 2), .int a] M (rec 4 a 0 M)) ∧
  (∀ (a : Int32) (M : Mem), CT l G D cy ad yX3_readTest cX3_readTest 3 (some .boolean) (B + dd) (QI G D cy ad) [.ref (ad 2), .int a] M (rec 5 a 0 M)) ∧
  (∀ (a : Int32) (M : Mem), CT l G D cy ad yX3_readBoth cX3_readBoth 3 (some .boolean) (B + dd) (QI G D cy ad) [.ref (ad 2), .int a] M (rec 6 a 0 M)) ∧
  (∀ (a : Int32) (M : Mem), CT l G D cy ad yX3_readFact cX3_readFact 2 (some .boolean) (B + dd) (QI G D cy ad) [.ref (ad 2), .int a] M (rec 7 a 0 M)) ∧
  (∀ (a : Int32) (M : Mem), CT l G D cy ad yX3_readComparison cX3_readComparison 3 (some .boolean) (B + dd) (QI G D cy ad) [.ref (ad 2), .int a] M (rec 8 a 0 M))
/-! X3_readSum -/
def bX3_readSum_12 (n0 : Nat) (rec : Nat → Int32 → Int32 → Mem → Option (Int32 × Mem)) (k12 : Int32 → Int32 → Mem → Option (Int32 × Mem)) (x1 : Int32) (x2 : Int32) (M : Mem) : Option (Int32 × Mem) :=
  if (1600 : Int32) ≤ x2 then
    some ((1 : Int32), M)
  else
    (fX3_sumStep n0 M).bind fun z20 =>
    if z20.1 = 0 then
      some ((1 : Int32), z20.2)
    else
      (fX3_sumStep n0 z20.2).bind fun z27 =>
      (fX8_advance n0 z27.2).bind fun z35 =>
      (rec 1 x1 (0 : Int32) z35).bind fun z40 =>
      if z40.1 = 0 then
        some ((0 : Int32), z40.2)
      else
        (fX0_add n0 (gR z40.2 257) z27.1 z40.2).bind fun z53 =>
        k12 x1 (x2 + (1 : Int32)) z53
def fX3_readSum_12 (n0 : Nat) (rec : Nat → Int32 → Int32 → Mem → Option (Int32 × Mem)) : Int32 → Int32 → Mem → Option (Int32 × Mem) := loopN (bX3_readSum_12 n0 rec) (fun _ _ _ => none) n0
def fX3_readSum (n0 : Nat) (rec : Nat → Int32 → Int32 → Mem → Option (Int32 × Mem)) (x1 : Int32) (M : Mem) : Option (Int32 × Mem) :=
  (rec 1 x1 (0 : Int32) M).bind fun z2 =>
  if z2.1 = 0 then
    some ((0 : Int32), z2.2)
  else
    fX3_readSum_12 n0 rec x1 (0 : Int32) z2.2
theorem tbX3_readSum_12 (n0 : Nat) (rec : Nat → Int32 → Int32 → Mem → Option (Int32 × Mem)) (hO : OKc p (rmL (5 + dd + 1)) s m args meth c LX D cy ad cX3_readSum RX3 4 (5 + dd + 1) (some .boolean)) (hrec : recOK l LX D cy ad 5 dd rec) (k12 : Int32 → Int32 → Mem → Option (Int32 × Mem)) (hk12 : ∀ (x1 : Int32) (x2 : Int32) (M : Mem), BL p l e (rmL (5 + dd + 1)) s m args below meth c LX D cy ad 4 (QI LX D cy ad) 12 [(0, .ref (ad 2)), (1, .int x1), (2, .int x2)] [] M (k12 x1 x2 M)) (x1 : Int32) (x2 : Int32) (M : Mem) : BL p l e (rmL (5 + dd + 1)) s m args below meth c LX D cy ad 4 (QI LX D cy ad) 12 [(0, .ref (ad 2)), (1, .int x1), (2, .int x2)] [] M (bX3_readSum_12 n0 rec k12 x1 x2 M) := by
  unfold bX3_readSum_12
  refine b_iload_n hO dX3_readSum_12 2 rfl rfl ?_
  refine b_sipush hO dX3_readSum_13 ic_s_1600 ?_
  refine b_icmp_ge hO dX3_readSum_16 (tgt := 62) (by decide) ?_ ?_
  · refine b_iconst hO dX3_readSum_62 ic_i_1 ?_
    exact b_zretc hO (Or.inr rfl) dX3_readSum_63
  · refine b_aload_n hO dX3_readSum_19 0 rfl rfl ?_
    refine b_callVI hO mdX3_sumStep mvX3_sumStep w892 (ci := 3) rfl rfl (by decide) kLX_2 (As := []) (st := []) (ctX3_sumStep n0 hO.2.2.2.2.2.2.1 _) (by omega) rfl rfl (Nat.le_of_ble_eq_true rfl) dX3_readSum_20 (fun z20 => ?_)
    refine b_if_eq hO dX3_readSum_23 (tgt := 62) (by decide) ?_ ?_
    · refine b_iconst hO dX3_readSum_62 ic_i_1 ?_
      exact b_zretc hO (Or.inr rfl) dX3_readSum_63
    · refine b_aload_n hO dX3_readSum_26 0 rfl rfl ?_
      refine b_callVI hO mdX3_sumStep mvX3_sumStep w892 (ci := 3) rfl rfl (by decide) kLX_2 (As := []) (st := []) (ctX3_sumStep n0 hO.2.2.2.2.2.2.1 _) (by omega) rfl rfl (Nat.le_of_ble_eq_true rfl) dX3_readSum_27 (fun z27 => ?_)
      refine b_istore_n hO dX3_readSum_30 rfl (by decide) (lv' := [(3, .int _), (0, .ref _), (1, .int _), (2, .int _)]) rfl ?_
      refine b_aload_n hO dX3_readSum_31 1 rfl rfl ?_
      refine b_get hO flX3_15 kLX_2 (v := .ref (ad 3)) rfl dX3_readSum_32 ?_
      refine b_callVV hO mdX8_advance mvX8_advance w848 (ci := 8) rfl rfl (by decide) kLX_3 (As := []) (st := []) (ctX8_advance n0 hO.2.2.2.2.2.2.1 _) (by omega) rfl rfl (Nat.le_of_ble_eq_true rfl) dX3_readSum_35 (fun z35 => ?_)
      refine b_aload_n hO dX3_readSum_38 1 rfl rfl ?_
      refine b_iload_n hO dX3_readSum_39 2 rfl rfl ?_
      refine b_callVI hO mdX3_readProduct mvX3_readProduct w832 (ci := 3) rfl rfl (by decide) kLX_2 (As := [.int _]) (st := []) (hrec.2.1 _ _) (by omega) rfl rfl (Nat.le_of_ble_eq_true rfl) dX3_readSum_40 (fun z40 => ?_)
      refine b_if_ne hO dX3_readSum_43 (tgt := 48) (by decide) ?_ ?_
      · refine b_aload_n hO dX3_readSum_48 1 rfl rfl ?_
        refine b_getR hO flX3_19 kLX_2 (id := 257) rfl rfl (rk := 0) rfl (by decide) dX3_readSum_49 (fun hg1 => ?_)
        refine b_iload_n hO dX3_readSum_52 0 rfl rfl ?_
        refine b_callVV hO mdX0_add mvX0_add w844 (ci := 0) rfl rfl (by decide) hg1 (As := [.int _]) (st := []) (ctX0_add n0 _ hg1 hO.2.2.2.2.2.2.1 _ _) (by omega) rfl rfl (Nat.le_of_ble_eq_true rfl) dX3_readSum_53 (fun z53 => ?_)
        refine b_iinc hO dX3_readSum_56 3 rfl ic_i_1 (by decide) (lv' := [(2, .int _), (3, .int _), (0, .ref _), (1, .int _)]) rfl ?_
        refine b_goto hO dX3_readSum_59 (tgt := 12) (by decide) ?_
        refine b_sub [2, 3, 0] rfl ?_
        exact hk12 _ _ _
      · refine b_iconst hO dX3_readSum_46 ic_i_0 ?_
        exact b_zretc hO (Or.inl rfl) dX3_readSum_47
theorem lX3_readSum_12 (n0 : Nat) (rec : Nat → Int32 → Int32 → Mem → Option (Int32 × Mem)) (hO : OKc p (rmL (5 + dd + 1)) s m args meth c LX D cy ad cX3_readSum RX3 4 (5 + dd + 1) (some .boolean)) (hrec : recOK l LX D cy ad 5 dd rec) : ∀ (w : Nat) (x1 : Int32) (x2 : Int32) (M : Mem), BL p l e (rmL (5 + dd + 1)) s m args below meth c LX D cy ad 4 (QI LX D cy ad) 12 [(0, .ref (ad 2)), (1, .int x1), (2, .int x2)] [] M (loopN (bX3_readSum_12 n0 rec) (fun _ _ _ => none) w x1 x2 M) := by
  intro w
  induction w with
  | zero =>
    intros
    exact b_none
  | succ w ih =>
    intro x1 x2 M
    exact tbX3_readSum_12 n0 rec hO hrec _ ih x1 x2 M
theorem tfX3_readSum_12 (n0 : Nat) (rec : Nat → Int32 → Int32 → Mem → Option (Int32 × Mem)) (hO : OKc p (rmL (5 + dd + 1)) s m args meth c LX D cy ad cX3_readSum RX3 4 (5 + dd + 1) (some .boolean)) (hrec : recOK l LX D cy ad 5 dd rec) (x1 : Int32) (x2 : Int32) (M : Mem) : BL p l e (rmL (5 + dd + 1)) s m args below meth c LX D cy ad 4 (QI LX D cy ad) 12 [(0, .ref (ad 2)), (1, .int x1), (2, .int x2)] [] M (fX3_readSum_12 n0 rec x1 x2 M) := lX3_readSum_12 n0 rec hO hrec n0 x1 x2 M
theorem tfX3_readSum (n0 : Nat) (rec : Nat → Int32 → Int32 → Mem → Option (Int32 × Mem)) (hO : OKc p (rmL (5 + dd + 1)) s m args meth c LX D cy ad cX3_readSum RX3 4 (5 + dd + 1) (some .boolean)) (hrec : recOK l LX D cy ad 5 dd rec) (x1 : Int32) (M : Mem) : BL p l e (rmL (5 + dd + 1)) s m args below meth c LX D cy ad 4 (QI LX D cy ad) 0 [(0, .ref (ad 2)), (1, .int x1)] [] M (fX3_readSum n0 rec x1 M) := by
  unfold fX3_readSum
  refine b_aload_n hO dX3_readSum_0 0 rfl rfl ?_
  refine b_iload_n hO dX3_readSum_1 1 rfl rfl ?_
  refine b_callVI hO mdX3_readProduct mvX3_readProduct w832 (ci := 3) rfl rfl (by decide) kLX_2 (As := [.int _]) (st := []) (hrec.2.1 _ _) (by omega) rfl rfl (Nat.le_of_ble_eq_true rfl) dX3_readSum_2 (fun z2 => ?_)
  refine b_if_ne hO dX3_readSum_5 (tgt := 10) (by decide) ?_ ?_
  · refine b_iconst hO dX3_readSum_10 ic_i_0 ?_
    refine b_istore_n hO dX3_readSum_11 rfl (by decide) (lv' := [(2, .int _), (0, .ref _), (1, .int _)]) rfl ?_
    refine b_sub [1, 2, 0] rfl ?_
    exact tfX3_readSum_12 n0 rec hO hrec _ _ _
  · refine b_iconst hO dX3_readSum_8 ic_i_0 ?_
    exact b_zretc hO (Or.inl rfl) dX3_readSum_9
theorem ctX3_readSum (n0 : Nat) (rec : Nat → Int32 → Int32 → Mem → Option (Int32 × Mem)) (hI : Inj LX ad) (hrec : recOK l LX D cy ad 5 dd rec) (x1 : Int32) (M : Mem) : CT l LX D cy ad yX3_readSum cX3_readSum 4 (some .boolean) (5 + dd + 1) (QI LX D cy ad) [.ref (ad 2), .int x1] M (fX3_readSum n0 rec x1 M) :=
  CT.mk LXok hI (by decide) (Nat.le_of_ble_eq_true rfl) (fun hO => tfX3_readSum n0 rec hO hrec x1 M)
/-! X3_readProduct -/
def bX3_readProduct_12 (n0 : Nat) (rec : Nat → Int32 → Int32 → Mem → Option (Int32 × Mem)) (k12 : Int32 → Int32 → Mem → Option (Int32 × Mem)) (x1 : Int32) (x2 : Int32) (M : Mem) : Option (Int32 × Mem) :=
  if (1600 : Int32) ≤ x2 then
    some ((1 : Int32), M)
  else
    (fX3_productStep n0 M).bind fun z20 =>
    if z20.1 = 0 then
      some ((1 : Int32), z20.2)
    else
      (fX3_productStep n0 z20.2).bind fun z27 =>
      (fX8_advance n0 z27.2).bind fun z35 =>
      (rec 2 x1 (0 : Int32) z35).bind fun z40 =>
      if z40.1 = 0 then
        some ((0 : Int32), z40.2)
      else
        (fX0_add n0 (gR z40.2 257) z27.1 z40.2).bind fun z53 =>
        k12 x1 (x2 + (1 : Int32)) z53
def fX3_readProduct_12 (n0 : Nat) (rec : Nat → Int32 → Int32 → Mem → Option (Int32 × Mem)) : Int32 → Int32 → Mem → Option (Int32 × Mem) := loopN (bX3_readProduct_12 n0 rec) (fun _ _ _ => none) n0
def fX3_readProduct (n0 : Nat) (rec : Nat → Int32 → Int32 → Mem → Option (Int32 × Mem)) (x1 : Int32) (M : Mem) : Option (Int32 × Mem) :=
  (rec 2 x1 (0 : Int32) M).bind fun z2 =>
  if z2.1 = 0 then
    some ((0 : Int32), z2.2)
  else
    fX3_readProduct_12 n0 rec x1 (0 : Int32) z2.2
theorem tbX3_readProduct_12 (n0 : Nat) (rec : Nat → Int32 → Int32 → Mem → Option (Int32 × Mem)) (hO : OKc p (rmL (5 + dd + 1)) s m args meth c LX D cy ad cX3_readProduct RX3 4 (5 + dd + 1) (some .boolean)) (hrec : recOK l LX D cy ad 5 dd rec) (k12 : Int32 → Int32 → Mem → Option (Int32 × Mem)) (hk12 : ∀ (x1 : Int32) (x2 : Int32) (M : Mem), BL p l e (rmL (5 + dd + 1)) s m args below meth c LX D cy ad 4 (QI LX D cy ad) 12 [(0, .ref (ad 2)), (1, .int x1), (2, .int x2)] [] M (k12 x1 x2 M)) (x1 : Int32) (x2 : Int32) (M : Mem) : BL p l e (rmL (5 + dd + 1)) s m args below meth c LX D cy ad 4 (QI LX D cy ad) 12 [(0, .ref (ad 2)), (1, .int x1), (2, .int x2)] [] M (bX3_readProduct_12 n0 rec k12 x1 x2 M) := by
  unfold bX3_readProduct_12
  refine b_iload_n hO dX3_readProduct_12 2 rfl rfl ?_
  refine b_sipush hO dX3_readProduct_13 ic_s_1600 ?_
  refine b_icmp_ge hO dX3_readProduct_16 (tgt := 62) (by decide) ?_ ?_
  · refine b_iconst hO dX3_readProduct_62 ic_i_1 ?_
    exact b_zretc hO (Or.inr rfl) dX3_readProduct_63
  · refine b_aload_n hO dX3_readProduct_19 0 rfl rfl ?_
    refine b_callVI hO mdX3_productStep mvX3_productStep w888 (ci := 3) rfl rfl (by decide) kLX_2 (As := []) (st := []) (ctX3_productStep n0 hO.2.2.2.2.2.2.1 _) (by omega) rfl rfl (Nat.le_of_ble_eq_true rfl) dX3_readProduct_20 (fun z20 => ?_)
    refine b_if_eq hO dX3_readProduct_23 (tgt := 62) (by decide) ?_ ?_
    · refine b_iconst hO dX3_readProduct_62 ic_i_1 ?_
      exact b_zretc hO (Or.inr rfl) dX3_readProduct_63
    · refine b_aload_n hO dX3_readProduct_26 0 rfl rfl ?_
      refine b_callVI hO mdX3_productStep mvX3_productStep w888 (ci := 3) rfl rfl (by decide) kLX_2 (As := []) (st := []) (ctX3_productStep n0 hO.2.2.2.2.2.2.1 _) (by omega) rfl rfl (Nat.le_of_ble_eq_true rfl) dX3_readProduct_27 (fun z27 => ?_)
      refine b_istore_n hO dX3_readProduct_30 rfl (by decide) (lv' := [(3, .int _), (0, .ref _), (1, .int _), (2, .int _)]) rfl ?_
      refine b_aload_n hO dX3_readProduct_31 1 rfl rfl ?_
      refine b_get hO flX3_15 kLX_2 (v := .ref (ad 3)) rfl dX3_readProduct_32 ?_
      refine b_callVV hO mdX8_advance mvX8_advance w848 (ci := 8) rfl rfl (by decide) kLX_3 (As := []) (st := []) (ctX8_advance n0 hO.2.2.2.2.2.2.1 _) (by omega) rfl rfl (Nat.le_of_ble_eq_true rfl) dX3_readProduct_35 (fun z35 => ?_)
      refine b_aload_n hO dX3_readProduct_38 1 rfl rfl ?_
      refine b_iload_n hO dX3_readProduct_39 2 rfl rfl ?_
      refine b_callVI hO mdX3_readPart mvX3_readPart w836 (ci := 3) rfl rfl (by decide) kLX_2 (As := [.int _]) (st := []) (hrec.2.2.1 _ _) (by omega) rfl rfl (Nat.le_of_ble_eq_true rfl) dX3_readProduct_40 (fun z40 => ?_)
      refine b_if_ne hO dX3_readProduct_43 (tgt := 48) (by decide) ?_ ?_
      · refine b_aload_n hO dX3_readProduct_48 1 rfl rfl ?_
        refine b_getR hO flX3_19 kLX_2 (id := 257) rfl rfl (rk := 0) rfl (by decide) dX3_readProduct_49 (fun hg1 => ?_)
        refine b_iload_n hO dX3_readProduct_52 0 rfl rfl ?_
        refine b_callVV hO mdX0_add mvX0_add w844 (ci := 0) rfl rfl (by decide) hg1 (As := [.int _]) (st := []) (ctX0_add n0 _ hg1 hO.2.2.2.2.2.2.1 _ _) (by omega) rfl rfl (Nat.le_of_ble_eq_true rfl) dX3_readProduct_53 (fun z53 => ?_)
        refine b_iinc hO dX3_readProduct_56 3 rfl ic_i_1 (by decide) (lv' := [(2, .int _), (3, .int _), (0, .ref _), (1, .int _)]) rfl ?_
        refine b_goto hO dX3_readProduct_59 (tgt := 12) (by decide) ?_
        refine b_sub [2, 3, 0] rfl ?_
        exact hk12 _ _ _
      · refine b_iconst hO dX3_readProduct_46 ic_i_0 ?_
        exact b_zretc hO (Or.inl rfl) dX3_readProduct_47
theorem lX3_readProduct_12 (n0 : Nat) (rec : Nat → Int32 → Int32 → Mem → Option (Int32 × Mem)) (hO : OKc p (rmL (5 + dd + 1)) s m args meth c LX D cy ad cX3_readProduct RX3 4 (5 + dd + 1) (some .boolean)) (hrec : recOK l LX D cy ad 5 dd rec) : ∀ (w : Nat) (x1 : Int32) (x2 : Int32) (M : Mem), BL p l e (rmL (5 + dd + 1)) s m args below meth c LX D cy ad 4 (QI LX D cy ad) 12 [(0, .ref (ad 2)), (1, .int x1), (2, .int x2)] [] M (loopN (bX3_readProduct_12 n0 rec) (fun _ _ _ => none) w x1 x2 M) := by
  intro w
  induction w with
  | zero =>
    intros
    exact b_none
  | succ w ih =>
    intro x1 x2 M
    exact tbX3_readProduct_12 n0 rec hO hrec _ ih x1 x2 M
theorem tfX3_readProduct_12 (n0 : Nat) (rec : Nat → Int32 → Int32 → Mem → Option (Int32 × Mem)) (hO : OKc p (rmL (5 + dd + 1)) s m args meth c LX D cy ad cX3_readProduct RX3 4 (5 + dd + 1) (some .boolean)) (hrec : recOK l LX D cy ad 5 dd rec) (x1 : Int32) (x2 : Int32) (M : Mem) : BL p l e (rmL (5 + dd + 1)) s m args below meth c LX D cy ad 4 (QI LX D cy ad) 12 [(0, .ref (ad 2)), (1, .int x1), (2, .int x2)] [] M (fX3_readProduct_12 n0 rec x1 x2 M) := lX3_readProduct_12 n0 rec hO hrec n0 x1 x2 M
theorem tfX3_readProduct (n0 : Nat) (rec : Nat → Int32 → Int32 → Mem → Option (Int32 × Mem)) (hO : OKc p (rmL (5 + dd + 1)) s m args meth c LX D cy ad cX3_readProduct RX3 4 (5 + dd + 1) (some .boolean)) (hrec : recOK l LX D cy ad 5 dd rec) (x1 : Int32) (M : Mem) : BL p l e (rmL (5 + dd + 1)) s m args below meth c LX D cy ad 4 (QI LX D cy ad) 0 [(0, .ref (ad 2)), (1, .int x1)] [] M (fX3_readProduct n0 rec x1 M) := by
  unfold fX3_readProduct
  refine b_aload_n hO dX3_readProduct_0 0 rfl rfl ?_
  refine b_iload_n hO dX3_readProduct_1 1 rfl rfl ?_
  refine b_callVI hO mdX3_readPart mvX3_readPart w836 (ci := 3) rfl rfl (by decide) kLX_2 (As := [.int _]) (st := []) (hrec.2.2.1 _ _) (by omega) rfl rfl (Nat.le_of_ble_eq_true rfl) dX3_readProduct_2 (fun z2 => ?_)
  refine b_if_ne hO dX3_readProduct_5 (tgt := 10) (by decide) ?_ ?_
  · refine b_iconst hO dX3_readProduct_10 ic_i_0 ?_
    refine b_istore_n hO dX3_readProduct_11 rfl (by decide) (lv' := [(2, .int _), (0, .ref _), (1, .int _)]) rfl ?_
    refine b_sub [1, 2, 0] rfl ?_
    exact tfX3_readProduct_12 n0 rec hO hrec _ _ _
  · refine b_iconst hO dX3_readProduct_8 ic_i_0 ?_
    exact b_zretc hO (Or.inl rfl) dX3_readProduct_9
theorem ctX3_readProduct (n0 : Nat) (rec : Nat → Int32 → Int32 → Mem → Option (Int32 × Mem)) (hI : Inj LX ad) (hrec : recOK l LX D cy ad 5 dd rec) (x1 : Int32) (M : Mem) : CT l LX D cy ad yX3_readProduct cX3_readProduct 4 (some .boolean) (5 + dd + 1) (QI LX D cy ad) [.ref (ad 2), .int x1] M (fX3_readProduct n0 rec x1 M) :=
  CT.mk LXok hI (by decide) (Nat.le_of_ble_eq_true rfl) (fun hO => tfX3_readProduct n0 rec hO hrec x1 M)
/-! X3_readPart -/
def fX3_readPart (n0 : Nat) (rec : Nat → Int32 → Int32 → Mem → Option (Int32 × Mem)) (x1 : Int32) (M : Mem) : Option (Int32 × Mem) :=
  if (gI M 386) = 40 then
    (fX3_goIn n0 (40 : Int32) x1 M).bind fun z217 =>
    if z217.1 = 0 then
      some ((0 : Int32), z217.2)
    else
      (rec 0 (x1 + (1 : Int32)) (0 : Int32) z217.2).bind fun z227 =>
      if z227.1 = 0 then
        some ((0 : Int32), z227.2)
      else
        (fX8_skip n0 (41 : Int32) z227.2).bind fun z239 =>
        if z239.1 = 0 then
          some ((0 : Int32), z239.2)
        else
          some ((1 : Int32), z239.2)
  else
  if (gI M 386) = 256 then
    (fX3_addAndAdvance n0 (gI M 389) M).bind fun z112 =>
    if z112.1 = 0 ∨ z112.1 = 1 then some (z112.1, z112.2) else none
  else
  if (gI M 386) = 261 then
    (fX3_addAndAdvance n0 (-1 : Int32) M).bind fun z118 =>
    if z118.1 = 0 ∨ z118.1 = 1 then some (z118.1, z118.2) else none
  else
  if (gI M 386) = 262 then
    if (gI M 258) = 0 then
      (fX8_failHere n0 M).bind fun z187 =>
      if z187.1 = 0 ∨ z187.1 = 1 then some (z187.1, z187.2) else none
    else
      (fX3_addAndAdvance n0 (-6 : Int32) M).bind fun z177 =>
      if z177.1 = 0 ∨ z177.1 = 1 then some (z177.1, z177.2) else none
  else
  if (gI M 386) = 263 then
    (fX3_addAndAdvance n0 (-3 : Int32) M).bind fun z132 =>
    if z132.1 = 0 ∨ z132.1 = 1 then some (z132.1, z132.2) else none
  else
  if (gI M 386) = 275 then
    (fX3_addAndAdvance n0 (-2 : Int32) M).bind fun z125 =>
    if z125.1 = 0 ∨ z125.1 = 1 then some (z125.1, z125.2) else none
  else
  if (gI M 386) = 276 then
    (fX3_addAndAdvance n0 (-4 : Int32) M).bind fun z139 =>
    if z139.1 = 0 ∨ z139.1 = 1 then some (z139.1, z139.2) else none
  else
  if (gI M 386) = 277 then
    if (gI M 258) = 0 then
      (fX3_addAndAdvance n0 (-5 : Int32) M).bind fun z163 =>
      if z163.1 = 0 ∨ z163.1 = 1 then some (z163.1, z163.2) else none
    else
      (fX8_failHere n0 M).bind fun z154 =>
      if z154.1 = 0 ∨ z154.1 = 1 then some (z154.1, z154.2) else none
  else
  if (gI M 386) = 278 then
    (rec 4 x1 (0 : Int32) M).bind fun z209 =>
    if z209.1 = 0 ∨ z209.1 = 1 then some (z209.1, z209.2) else none
  else
  if (gI M 386) = 283 then
    (rec 3 x1 (-12 : Int32) M).bind fun z195 =>
    if z195.1 = 0 ∨ z195.1 = 1 then some (z195.1, z195.2) else none
  else
  if (gI M 386) = 284 then
    (rec 3 x1 (-13 : Int32) M).bind fun z203 =>
    if z203.1 = 0 ∨ z203.1 = 1 then some (z203.1, z203.2) else none
  else
  (fX8_failHere n0 M).bind fun z255 =>
  if z255.1 = 0 ∨ z255.1 = 1 then some (z255.1, z255.2) else none
theorem tfX3_readPart (n0 : Nat) (rec : Nat → Int32 → Int32 → Mem → Option (Int32 × Mem)) (hO : OKc p (rmL (5 + dd + 1)) s m args meth c LX D cy ad cX3_readPart RX3 2 (5 + dd + 1) (some .boolean)) (hrec : recOK l LX D cy ad 5 dd rec) (x1 : Int32) (M : Mem) : BL p l e (rmL (5 + dd + 1)) s m args below meth c LX D cy ad 2 (QI LX D cy ad) 0 [(0, .ref (ad 2)), (1, .int x1)] [] M (fX3_readPart n0 rec x1 M) := by
  unfold fX3_readPart
  refine b_aload_n hO dX3_readPart_0 0 rfl rfl ?_
  refine b_get hO flX3_15 kLX_2 (v := .ref (ad 3)) rfl dX3_readPart_1 ?_
  refine b_get hO flX3_30 kLX_3 (v := .int (gI _ 386)) rfl dX3_readPart_4 ?_
  refine b_lookIn hO dX3_readPart_7 (v := 40) (z := 40) (tgt := 213) (by decide) (by decide) rfl (by decide) ?_ (fun hn0 => ?_)
  · refine b_aload_n hO dX3_readPart_213 0 rfl rfl ?_
    refine b_bipush hO dX3_readPart_214 ic_b_40 ?_
    refine b_iload_n hO dX3_readPart_216 1 rfl rfl ?_
    refine b_callVI hO mdX3_goIn mvX3_goIn w854 (ci := 3) rfl rfl (by decide) kLX_2 (As := [.int _, .int _]) (st := []) (ctX3_goIn n0 hO.2.2.2.2.2.2.1 _ _ _) (by omega) rfl rfl (Nat.le_of_ble_eq_true rfl) dX3_readPart_217 (fun z217 => ?_)
    refine b_if_eq hO dX3_readPart_220 (tgt := 249) (by decide) ?_ ?_
    · refine b_iconst hO dX3_readPart_249 ic_i_0 ?_
      exact b_zretc hO (Or.inl rfl) dX3_readPart_250
    · refine b_aload_n hO dX3_readPart_223 0 rfl rfl ?_
      refine b_iload_n hO dX3_readPart_224 1 rfl rfl ?_
      refine b_iconst hO dX3_readPart_225 ic_i_1 ?_
      refine b_iadd hO dX3_readPart_226 ?_
      refine b_callVI hO mdX3_readSum mvX3_readSum w828 (ci := 3) rfl rfl (by decide) kLX_2 (As := [.int _]) (st := []) (hrec.1 _ _) (by omega) rfl rfl (Nat.le_of_ble_eq_true rfl) dX3_readPart_227 (fun z227 => ?_)
      refine b_if_eq hO dX3_readPart_230 (tgt := 249) (by decide) ?_ ?_
      · refine b_iconst hO dX3_readPart_249 ic_i_0 ?_
        exact b_zretc hO (Or.inl rfl) dX3_readPart_250
      · refine b_aload_n hO dX3_readPart_233 0 rfl rfl ?_
        refine b_get hO flX3_15 kLX_2 (v := .ref (ad 3)) rfl dX3_readPart_234 ?_
        refine b_bipush hO dX3_readPart_237 ic_b_41 ?_
        refine b_callVI hO mdX8_skip mvX8_skip w859 (ci := 8) rfl rfl (by decide) kLX_3 (As := [.int _]) (st := []) (ctX8_skip n0 hO.2.2.2.2.2.2.1 _ _) (by omega) rfl rfl (Nat.le_of_ble_eq_true rfl) dX3_readPart_239 (fun z239 => ?_)
        refine b_if_eq hO dX3_readPart_242 (tgt := 249) (by decide) ?_ ?_
        · refine b_iconst hO dX3_readPart_249 ic_i_0 ?_
          exact b_zretc hO (Or.inl rfl) dX3_readPart_250
        · refine b_iconst hO dX3_readPart_245 ic_i_1 ?_
          refine b_goto hO dX3_readPart_246 (tgt := 250) (by decide) ?_
          exact b_zretc hO (Or.inr rfl) dX3_readPart_250
  refine b_lookIn hO dX3_readPart_7 (v := 256) (z := 256) (tgt := 104) (by decide) (by decide) rfl (by decide) ?_ (fun hn1 => ?_)
  · refine b_aload_n hO dX3_readPart_104 0 rfl rfl ?_
    refine b_aload_n hO dX3_readPart_105 0 rfl rfl ?_
    refine b_get hO flX3_15 kLX_2 (v := .ref (ad 3)) rfl dX3_readPart_106 ?_
    refine b_get hO flX3_69 kLX_3 (v := .int (gI _ 389)) rfl dX3_readPart_109 ?_
    refine b_callVI hO mdX3_addAndAdvance mvX3_addAndAdvance w840 (ci := 3) rfl rfl (by decide) kLX_2 (As := [.int _]) (st := []) (ctX3_addAndAdvance n0 hO.2.2.2.2.2.2.1 _ _) (by omega) rfl rfl (Nat.le_of_ble_eq_true rfl) dX3_readPart_112 (fun z112 => ?_)
    exact b_zret hO dX3_readPart_115
  refine b_lookIn hO dX3_readPart_7 (v := 261) (z := 261) (tgt := 116) (by decide) (by decide) rfl (by decide) ?_ (fun hn2 => ?_)
  · refine b_aload_n hO dX3_readPart_116 0 rfl rfl ?_
    refine b_iconst hO dX3_readPart_117 ic_i_m1 ?_
    refine b_callVI hO mdX3_addAndAdvance mvX3_addAndAdvance w840 (ci := 3) rfl rfl (by decide) kLX_2 (As := [.int _]) (st := []) (ctX3_addAndAdvance n0 hO.2.2.2.2.2.2.1 _ _) (by omega) rfl rfl (Nat.le_of_ble_eq_true rfl) dX3_readPart_118 (fun z118 => ?_)
    exact b_zret hO dX3_readPart_121
  refine b_lookIn hO dX3_readPart_7 (v := 262) (z := 262) (tgt := 167) (by decide) (by decide) rfl (by decide) ?_ (fun hn3 => ?_)
  · refine b_aload_n hO dX3_readPart_167 0 rfl rfl ?_
    refine b_get hO flX3_9 kLX_2 (v := .int (gI _ 258)) rfl dX3_readPart_168 ?_
    refine b_if_eq hO dX3_readPart_171 (tgt := 183) (by decide) ?_ ?_
    · refine b_aload_n hO dX3_readPart_183 0 rfl rfl ?_
      refine b_get hO flX3_15 kLX_2 (v := .ref (ad 3)) rfl dX3_readPart_184 ?_
      refine b_callVI hO mdX8_failHere mvX8_failHere w849 (ci := 8) rfl rfl (by decide) kLX_3 (As := []) (st := []) (ctX8_failHere n0 hO.2.2.2.2.2.2.1 _) (by omega) rfl rfl (Nat.le_of_ble_eq_true rfl) dX3_readPart_187 (fun z187 => ?_)
      exact b_zret hO dX3_readPart_190
    · refine b_aload_n hO dX3_readPart_174 0 rfl rfl ?_
      refine b_bipush hO dX3_readPart_175 ic_b_m6 ?_
      refine b_callVI hO mdX3_addAndAdvance mvX3_addAndAdvance w840 (ci := 3) rfl rfl (by decide) kLX_2 (As := [.int _]) (st := []) (ctX3_addAndAdvance n0 hO.2.2.2.2.2.2.1 _ _) (by omega) rfl rfl (Nat.le_of_ble_eq_true rfl) dX3_readPart_177 (fun z177 => ?_)
      refine b_goto hO dX3_readPart_180 (tgt := 190) (by decide) ?_
      exact b_zret hO dX3_readPart_190
  refine b_lookIn hO dX3_readPart_7 (v := 263) (z := 263) (tgt := 129) (by decide) (by decide) rfl (by decide) ?_ (fun hn4 => ?_)
  · refine b_aload_n hO dX3_readPart_129 0 rfl rfl ?_
    refine b_bipush hO dX3_readPart_130 ic_b_m3 ?_
    refine b_callVI hO mdX3_addAndAdvance mvX3_addAndAdvance w840 (ci := 3) rfl rfl (by decide) kLX_2 (As := [.int _]) (st := []) (ctX3_addAndAdvance n0 hO.2.2.2.2.2.2.1 _ _) (by omega) rfl rfl (Nat.le_of_ble_eq_true rfl) dX3_readPart_132 (fun z132 => ?_)
    exact b_zret hO dX3_readPart_135
  refine b_lookIn hO dX3_readPart_7 (v := 275) (z := 275) (tgt := 122) (by decide) (by decide) rfl (by decide) ?_ (fun hn5 => ?_)
  · refine b_aload_n hO dX3_readPart_122 0 rfl rfl ?_
    refine b_bipush hO dX3_readPart_123 ic_b_m2 ?_
    refine b_callVI hO mdX3_addAndAdvance mvX3_addAndAdvance w840 (ci := 3) rfl rfl (by decide) kLX_2 (As := [.int _]) (st := []) (ctX3_addAndAdvance n0 hO.2.2.2.2.2.2.1 _ _) (by omega) rfl rfl (Nat.le_of_ble_eq_true rfl) dX3_readPart_125 (fun z125 => ?_)
    exact b_zret hO dX3_readPart_128
  refine b_lookIn hO dX3_readPart_7 (v := 276) (z := 276) (tgt := 136) (by decide) (by decide) rfl (by decide) ?_ (fun hn6 => ?_)
  · refine b_aload_n hO dX3_readPart_136 0 rfl rfl ?_
    refine b_bipush hO dX3_readPart_137 ic_b_m4 ?_
    refine b_callVI hO mdX3_addAndAdvance mvX3_addAndAdvance w840 (ci := 3) rfl rfl (by decide) kLX_2 (As := [.int _]) (st := []) (ctX3_addAndAdvance n0 hO.2.2.2.2.2.2.1 _ _) (by omega) rfl rfl (Nat.le_of_ble_eq_true rfl) dX3_readPart_139 (fun z139 => ?_)
    exact b_zret hO dX3_readPart_142
  refine b_lookIn hO dX3_readPart_7 (v := 277) (z := 277) (tgt := 143) (by decide) (by decide) rfl (by decide) ?_ (fun hn7 => ?_)
  · refine b_aload_n hO dX3_readPart_143 0 rfl rfl ?_
    refine b_get hO flX3_9 kLX_2 (v := .int (gI _ 258)) rfl dX3_readPart_144 ?_
    refine b_if_eq hO dX3_readPart_147 (tgt := 160) (by decide) ?_ ?_
    · refine b_aload_n hO dX3_readPart_160 0 rfl rfl ?_
      refine b_bipush hO dX3_readPart_161 ic_b_m5 ?_
      refine b_callVI hO mdX3_addAndAdvance mvX3_addAndAdvance w840 (ci := 3) rfl rfl (by decide) kLX_2 (As := [.int _]) (st := []) (ctX3_addAndAdvance n0 hO.2.2.2.2.2.2.1 _ _) (by omega) rfl rfl (Nat.le_of_ble_eq_true rfl) dX3_readPart_163 (fun z163 => ?_)
      exact b_zret hO dX3_readPart_166
    · refine b_aload_n hO dX3_readPart_150 0 rfl rfl ?_
      refine b_get hO flX3_15 kLX_2 (v := .ref (ad 3)) rfl dX3_readPart_151 ?_
      refine b_callVI hO mdX8_failHere mvX8_failHere w849 (ci := 8) rfl rfl (by decide) kLX_3 (As := []) (st := []) (ctX8_failHere n0 hO.2.2.2.2.2.2.1 _) (by omega) rfl rfl (Nat.le_of_ble_eq_true rfl) dX3_readPart_154 (fun z154 => ?_)
      refine b_goto hO dX3_readPart_157 (tgt := 166) (by decide) ?_
      exact b_zret hO dX3_readPart_166
  refine b_lookIn hO dX3_readPart_7 (v := 278) (z := 278) (tgt := 207) (by decide) (by decide) rfl (by decide) ?_ (fun hn8 => ?_)
  · refine b_aload_n hO dX3_readPart_207 0 rfl rfl ?_
    refine b_iload_n hO dX3_readPart_208 1 rfl rfl ?_
    refine b_callVI hO mdX3_readChoice mvX3_readChoice w864 (ci := 3) rfl rfl (by decide) kLX_2 (As := [.int _]) (st := []) (hrec.2.2.2.2.1 _ _) (by omega) rfl rfl (Nat.le_of_ble_eq_true rfl) dX3_readPart_209 (fun z209 => ?_)
    exact b_zret hO dX3_readPart_212
  refine b_lookIn hO dX3_readPart_7 (v := 283) (z := 283) (tgt := 191) (by decide) (by decide) rfl (by decide) ?_ (fun hn9 => ?_)
  · refine b_aload_n hO dX3_readPart_191 0 rfl rfl ?_
    refine b_iload_n hO dX3_readPart_192 1 rfl rfl ?_
    refine b_bipush hO dX3_readPart_193 ic_b_m12 ?_
    refine b_callVI hO mdX3_readPair mvX3_readPair w850 (ci := 3) rfl rfl (by decide) kLX_2 (As := [.int _, .int _]) (st := []) (hrec.2.2.2.1 _ _ _) (by omega) rfl rfl (Nat.le_of_ble_eq_true rfl) dX3_readPart_195 (fun z195 => ?_)
    exact b_zret hO dX3_readPart_198
  refine b_lookIn hO dX3_readPart_7 (v := 284) (z := 284) (tgt := 199) (by decide) (by decide) rfl (by decide) ?_ (fun hn10 => ?_)
  · refine b_aload_n hO dX3_readPart_199 0 rfl rfl ?_
    refine b_iload_n hO dX3_readPart_200 1 rfl rfl ?_
    refine b_bipush hO dX3_readPart_201 ic_b_m13 ?_
    refine b_callVI hO mdX3_readPair mvX3_readPair w850 (ci := 3) rfl rfl (by decide) kLX_2 (As := [.int _, .int _]) (st := []) (hrec.2.2.2.1 _ _ _) (by omega) rfl rfl (Nat.le_of_ble_eq_true rfl) dX3_readPart_203 (fun z203 => ?_)
    exact b_zret hO dX3_readPart_206
  refine b_lookOut hO dX3_readPart_7 (tgt := 251) (by decide) (by rw [lv_osw hn0 (by decide)]; rw [lv_osw hn1 (by decide)]; rw [lv_osw hn2 (by decide)]; rw [lv_osw hn3 (by decide)]; rw [lv_osw hn4 (by decide)]; rw [lv_osw hn5 (by decide)]; rw [lv_osw hn6 (by decide)]; rw [lv_osw hn7 (by decide)]; rw [lv_osw hn8 (by decide)]; rw [lv_osw hn9 (by decide)]; rw [lv_osw hn10 (by decide)]; rfl) (by decide) ?_
  refine b_aload_n hO dX3_readPart_251 0 rfl rfl ?_
  refine b_get hO flX3_15 kLX_2 (v := .ref (ad 3)) rfl dX3_readPart_252 ?_
  refine b_callVI hO mdX8_failHere mvX8_failHere w849 (ci := 8) rfl rfl (by decide) kLX_3 (As := []) (st := []) (ctX8_failHere n0 hO.2.2.2.2.2.2.1 _) (by omega) rfl rfl (Nat.le_of_ble_eq_true rfl) dX3_readPart_255 (fun z255 => ?_)
  exact b_zret hO dX3_readPart_258
theorem ctX3_readPart (n0 : Nat) (rec : Nat → Int32 → Int32 → Mem → Option (Int32 × Mem)) (hI : Inj LX ad) (hrec : recOK l LX D cy ad 5 dd rec) (x1 : Int32) (M : Mem) : CT l LX D cy ad yX3_readPart cX3_readPart 2 (some .boolean) (5 + dd + 1) (QI LX D cy ad) [.ref (ad 2), .int x1] M (fX3_readPart n0 rec x1 M) :=
  CT.mk LXok hI (by decide) (Nat.le_of_ble_eq_true rfl) (fun hO => tfX3_readPart n0 rec hO hrec x1 M)
/-! X3_readPair -/
def fX3_readPair (n0 : Nat) (rec : Nat → Int32 → Int32 → Mem → Option (Int32 × Mem)) (x1 : Int32) (x2 : Int32) (M : Mem) : Option (Int32 × Mem) :=
  (fX8_advance n0 M).bind fun z4 =>
  (fX3_goIn n0 (40 : Int32) x1 z4).bind fun z11 =>
  if z11.1 = 0 then
    some ((0 : Int32), z11.2)
  else
    (rec 0 (x1 + (1 : Int32)) (0 : Int32) z11.2).bind fun z21 =>
    if z21.1 = 0 then
      some ((0 : Int32), z21.2)
    else
      (fX8_skip n0 (44 : Int32) z21.2).bind fun z33 =>
      if z33.1 = 0 then
        some ((0 : Int32), z33.2)
      else
        (rec 0 (x1 + (1 : Int32)) (0 : Int32) z33.2).bind fun z43 =>
        if z43.1 = 0 then
          some ((0 : Int32), z43.2)
        else
          (fX8_skip n0 (41 : Int32) z43.2).bind fun z55 =>
          if z55.1 = 0 then
            some ((0 : Int32), z55.2)
          else
            (fX3_add n0 x2 z55.2).bind fun z63 =>
            if z63.1 = 0 then
              some ((0 : Int32), z63.2)
            else
              some ((1 : Int32), z63.2)
theorem tfX3_readPair (n0 : Nat) (rec : Nat → Int32 → Int32 → Mem → Option (Int32 × Mem)) (hO : OKc p (rmL (5 + dd + 1)) s m args meth c LX D cy ad cX3_readPair RX3 3 (5 + dd + 1) (some .boolean)) (hrec : recOK l LX D cy ad 5 dd rec) (x1 : Int32) (x2 : Int32) (M : Mem) : BL p l e (rmL (5 + dd + 1)) s m args below meth c LX D cy ad 3 (QI LX D cy ad) 0 [(0, .ref (ad 2)), (1, .int x1), (2, .int x2)] [] M (fX3_readPair n0 rec x1 x2 M) := by
  unfold fX3_readPair
  refine b_aload_n hO dX3_readPair_0 0 rfl rfl ?_
  refine b_get hO flX3_15 kLX_2 (v := .ref (ad 3)) rfl dX3_readPair_1 ?_
  refine b_callVV hO mdX8_advance mvX8_advance w848 (ci := 8) rfl rfl (by decide) kLX_3 (As := []) (st := []) (ctX8_advance n0 hO.2.2.2.2.2.2.1 _) (by omega) rfl rfl (Nat.le_of_ble_eq_true rfl) dX3_readPair_4 (fun z4 => ?_)
  refine b_aload_n hO dX3_readPair_7 0 rfl rfl ?_
  refine b_bipush hO dX3_readPair_8 ic_b_40 ?_
  refine b_iload_n hO dX3_readPair_10 1 rfl rfl ?_
  refine b_callVI hO mdX3_goIn mvX3_goIn w854 (ci := 3) rfl rfl (by decide) kLX_2 (As := [.int _, .int _]) (st := []) (ctX3_goIn n0 hO.2.2.2.2.2.2.1 _ _ _) (by omega) rfl rfl (Nat.le_of_ble_eq_true rfl) dX3_readPair_11 (fun z11 => ?_)
  refine b_if_eq hO dX3_readPair_14 (tgt := 73) (by decide) ?_ ?_
  · refine b_iconst hO dX3_readPair_73 ic_i_0 ?_
    exact b_zretc hO (Or.inl rfl) dX3_readPair_74
  · refine b_aload_n hO dX3_readPair_17 0 rfl rfl ?_
    refine b_iload_n hO dX3_readPair_18 1 rfl rfl ?_
    refine b_iconst hO dX3_readPair_19 ic_i_1 ?_
    refine b_iadd hO dX3_readPair_20 ?_
    refine b_callVI hO mdX3_readSum mvX3_readSum w828 (ci := 3) rfl rfl (by decide) kLX_2 (As := [.int _]) (st := []) (hrec.1 _ _) (by omega) rfl rfl (Nat.le_of_ble_eq_true rfl) dX3_readPair_21 (fun z21 => ?_)
    refine b_if_eq hO dX3_readPair_24 (tgt := 73) (by decide) ?_ ?_
    · refine b_iconst hO dX3_readPair_73 ic_i_0 ?_
      exact b_zretc hO (Or.inl rfl) dX3_readPair_74
    · refine b_aload_n hO dX3_readPair_27 0 rfl rfl ?_
      refine b_get hO flX3_15 kLX_2 (v := .ref (ad 3)) rfl dX3_readPair_28 ?_
      refine b_bipush hO dX3_readPair_31 ic_b_44 ?_
      refine b_callVI hO mdX8_skip mvX8_skip w859 (ci := 8) rfl rfl (by decide) kLX_3 (As := [.int _]) (st := []) (ctX8_skip n0 hO.2.2.2.2.2.2.1 _ _) (by omega) rfl rfl (Nat.le_of_ble_eq_true rfl) dX3_readPair_33 (fun z33 => ?_)
      refine b_if_eq hO dX3_readPair_36 (tgt := 73) (by decide) ?_ ?_
      · refine b_iconst hO dX3_readPair_73 ic_i_0 ?_
        exact b_zretc hO (Or.inl rfl) dX3_readPair_74
      · refine b_aload_n hO dX3_readPair_39 0 rfl rfl ?_
        refine b_iload_n hO dX3_readPair_40 1 rfl rfl ?_
        refine b_iconst hO dX3_readPair_41 ic_i_1 ?_
        refine b_iadd hO dX3_readPair_42 ?_
        refine b_callVI hO mdX3_readSum mvX3_readSum w828 (ci := 3) rfl rfl (by decide) kLX_2 (As := [.int _]) (st := []) (hrec.1 _ _) (by omega) rfl rfl (Nat.le_of_ble_eq_true rfl) dX3_readPair_43 (fun z43 => ?_)
        refine b_if_eq hO dX3_readPair_46 (tgt := 73) (by decide) ?_ ?_
        · refine b_iconst hO dX3_readPair_73 ic_i_0 ?_
          exact b_zretc hO (Or.inl rfl) dX3_readPair_74
        · refine b_aload_n hO dX3_readPair_49 0 rfl rfl ?_
          refine b_get hO flX3_15 kLX_2 (v := .ref (ad 3)) rfl dX3_readPair_50 ?_
          refine b_bipush hO dX3_readPair_53 ic_b_41 ?_
          refine b_callVI hO mdX8_skip mvX8_skip w859 (ci := 8) rfl rfl (by decide) kLX_3 (As := [.int _]) (st := []) (ctX8_skip n0 hO.2.2.2.2.2.2.1 _ _) (by omega) rfl rfl (Nat.le_of_ble_eq_true rfl) dX3_readPair_55 (fun z55 => ?_)
          refine b_if_eq hO dX3_readPair_58 (tgt := 73) (by decide) ?_ ?_
          · refine b_iconst hO dX3_readPair_73 ic_i_0 ?_
            exact b_zretc hO (Or.inl rfl) dX3_readPair_74
          · refine b_aload_n hO dX3_readPair_61 0 rfl rfl ?_
            refine b_iload_n hO dX3_readPair_62 2 rfl rfl ?_
            refine b_callVI hO mdX3_add mvX3_add w860 (ci := 3) rfl rfl (by decide) kLX_2 (As := [.int _]) (st := []) (ctX3_add n0 hO.2.2.2.2.2.2.1 _ _) (by omega) rfl rfl (Nat.le_of_ble_eq_true rfl) dX3_readPair_63 (fun z63 => ?_)
            refine b_if_eq hO dX3_readPair_66 (tgt := 73) (by decide) ?_ ?_
            · refine b_iconst hO dX3_readPair_73 ic_i_0 ?_
              exact b_zretc hO (Or.inl rfl) dX3_readPair_74
            · refine b_iconst hO dX3_readPair_69 ic_i_1 ?_
              refine b_goto hO dX3_readPair_70 (tgt := 74) (by decide) ?_
              exact b_zretc hO (Or.inr rfl) dX3_readPair_74
theorem ctX3_readPair (n0 : Nat) (rec : Nat → Int32 → Int32 → Mem → Option (Int32 × Mem)) (hI : Inj LX ad) (hrec : recOK l LX D cy ad 5 dd rec) (x1 : Int32) (x2 : Int32) (M : Mem) : CT l LX D cy ad yX3_readPair cX3_readPair 3 (some .boolean) (5 + dd + 1) (QI LX D cy ad) [.ref (ad 2), .int x1, .int x2] M (fX3_readPair n0 rec x1 x2 M) :=
  CT.mk LXok hI (by decide) (Nat.le_of_ble_eq_true rfl) (fun hO => tfX3_readPair n0 rec hO hrec x1 x2 M)
/-! X3_readChoice -/
def fX3_readChoice (n0 : Nat) (rec : Nat → Int32 → Int32 → Mem → Option (Int32 × Mem)) (x1 : Int32) (M : Mem) : Option (Int32 × Mem) :=
  (fX8_advance n0 M).bind fun z4 =>
  (fX3_goIn n0 (40 : Int32) x1 z4).bind fun z11 =>
  if z11.1 = 0 then
    some ((0 : Int32), z11.2)
  else
    (rec 5 (x1 + (1 : Int32)) (0 : Int32) z11.2).bind fun z21 =>
    if z21.1 = 0 then
      some ((0 : Int32), z21.2)
    else
      (fX8_skip n0 (44 : Int32) z21.2).bind fun z33 =>
      if z33.1 = 0 then
        some ((0 : Int32), z33.2)
      else
        (rec 0 (x1 + (1 : Int32)) (0 : Int32) z33.2).bind fun z43 =>
        if z43.1 = 0 then
          some ((0 : Int32), z43.2)
        else
          (fX8_skip n0 (44 : Int32) z43.2).bind fun z55 =>
          if z55.1 = 0 then
            some ((0 : Int32), z55.2)
          else
            (rec 0 (x1 + (1 : Int32)) (0 : Int32) z55.2).bind fun z65 =>
            if z65.1 = 0 then
              some ((0 : Int32), z65.2)
            else
              (fX8_skip n0 (41 : Int32) z65.2).bind fun z77 =>
              if z77.1 = 0 then
                some ((0 : Int32), z77.2)
              else
                (fX3_add n0 (-14 : Int32) z77.2).bind fun z86 =>
                if z86.1 = 0 then
                  some ((0 : Int32), z86.2)
                else
                  some ((1 : Int32), z86.2)
theorem tfX3_readChoice (n0 : Nat) (rec : Nat → Int32 → Int32 → Mem → Option (Int32 × Mem)) (hO : OKc p (rmL (5 + dd + 1)) s m args meth c LX D cy ad cX3_readChoice RX3 2 (5 + dd + 1) (some .boolean)) (hrec : recOK l LX D cy ad 5 dd rec) (x1 : Int32) (M : Mem) : BL p l e (rmL (5 + dd + 1)) s m args below meth c LX D cy ad 2 (QI LX D cy ad) 0 [(0, .ref (ad 2)), (1, .int x1)] [] M (fX3_readChoice n0 rec x1 M) := by
  unfold fX3_readChoice
  refine b_aload_n hO dX3_readChoice_0 0 rfl rfl ?_
  refine b_get hO flX3_15 kLX_2 (v := .ref (ad 3)) rfl dX3_readChoice_1 ?_
  refine b_callVV hO mdX8_advance mvX8_advance w848 (ci := 8) rfl rfl (by decide) kLX_3 (As := []) (st := []) (ctX8_advance n0 hO.2.2.2.2.2.2.1 _) (by omega) rfl rfl (Nat.le_of_ble_eq_true rfl) dX3_readChoice_4 (fun z4 => ?_)
  refine b_aload_n hO dX3_readChoice_7 0 rfl rfl ?_
  refine b_bipush hO dX3_readChoice_8 ic_b_40 ?_
  refine b_iload_n hO dX3_readChoice_10 1 rfl rfl ?_
  refine b_callVI hO mdX3_goIn mvX3_goIn w854 (ci := 3) rfl rfl (by decide) kLX_2 (As := [.int _, .int _]) (st := []) (ctX3_goIn n0 hO.2.2.2.2.2.2.1 _ _ _) (by omega) rfl rfl (Nat.le_of_ble_eq_true rfl) dX3_readChoice_11 (fun z11 => ?_)
  refine b_if_eq hO dX3_readChoice_14 (tgt := 96) (by decide) ?_ ?_
  · refine b_iconst hO dX3_readChoice_96 ic_i_0 ?_
    exact b_zretc hO (Or.inl rfl) dX3_readChoice_97
  · refine b_aload_n hO dX3_readChoice_17 0 rfl rfl ?_
    refine b_iload_n hO dX3_readChoice_18 1 rfl rfl ?_
    refine b_iconst hO dX3_readChoice_19 ic_i_1 ?_
    refine b_iadd hO dX3_readChoice_20 ?_
    refine b_callVI hO mdX3_readTest mvX3_readTest w868 (ci := 3) rfl rfl (by decide) kLX_2 (As := [.int _]) (st := []) (hrec.2.2.2.2.2.1 _ _) (by omega) rfl rfl (Nat.le_of_ble_eq_true rfl) dX3_readChoice_21 (fun z21 => ?_)
    refine b_if_eq hO dX3_readChoice_24 (tgt := 96) (by decide) ?_ ?_
    · refine b_iconst hO dX3_readChoice_96 ic_i_0 ?_
      exact b_zretc hO (Or.inl rfl) dX3_readChoice_97
    · refine b_aload_n hO dX3_readChoice_27 0 rfl rfl ?_
      refine b_get hO flX3_15 kLX_2 (v := .ref (ad 3)) rfl dX3_readChoice_28 ?_
      refine b_bipush hO dX3_readChoice_31 ic_b_44 ?_
      refine b_callVI hO mdX8_skip mvX8_skip w859 (ci := 8) rfl rfl (by decide) kLX_3 (As := [.int _]) (st := []) (ctX8_skip n0 hO.2.2.2.2.2.2.1 _ _) (by omega) rfl rfl (Nat.le_of_ble_eq_true rfl) dX3_readChoice_33 (fun z33 => ?_)
      refine b_if_eq hO dX3_readChoice_36 (tgt := 96) (by decide) ?_ ?_
      · refine b_iconst hO dX3_readChoice_96 ic_i_0 ?_
        exact b_zretc hO (Or.inl rfl) dX3_readChoice_97
      · refine b_aload_n hO dX3_readChoice_39 0 rfl rfl ?_
        refine b_iload_n hO dX3_readChoice_40 1 rfl rfl ?_
        refine b_iconst hO dX3_readChoice_41 ic_i_1 ?_
        refine b_iadd hO dX3_readChoice_42 ?_
        refine b_callVI hO mdX3_readSum mvX3_readSum w828 (ci := 3) rfl rfl (by decide) kLX_2 (As := [.int _]) (st := []) (hrec.1 _ _) (by omega) rfl rfl (Nat.le_of_ble_eq_true rfl) dX3_readChoice_43 (fun z43 => ?_)
        refine b_if_eq hO dX3_readChoice_46 (tgt := 96) (by decide) ?_ ?_
        · refine b_iconst hO dX3_readChoice_96 ic_i_0 ?_
          exact b_zretc hO (Or.inl rfl) dX3_readChoice_97
        · refine b_aload_n hO dX3_readChoice_49 0 rfl rfl ?_
          refine b_get hO flX3_15 kLX_2 (v := .ref (ad 3)) rfl dX3_readChoice_50 ?_
          refine b_bipush hO dX3_readChoice_53 ic_b_44 ?_
          refine b_callVI hO mdX8_skip mvX8_skip w859 (ci := 8) rfl rfl (by decide) kLX_3 (As := [.int _]) (st := []) (ctX8_skip n0 hO.2.2.2.2.2.2.1 _ _) (by omega) rfl rfl (Nat.le_of_ble_eq_true rfl) dX3_readChoice_55 (fun z55 => ?_)
          refine b_if_eq hO dX3_readChoice_58 (tgt := 96) (by decide) ?_ ?_
          · refine b_iconst hO dX3_readChoice_96 ic_i_0 ?_
            exact b_zretc hO (Or.inl rfl) dX3_readChoice_97
          · refine b_aload_n hO dX3_readChoice_61 0 rfl rfl ?_
            refine b_iload_n hO dX3_readChoice_62 1 rfl rfl ?_
            refine b_iconst hO dX3_readChoice_63 ic_i_1 ?_
            refine b_iadd hO dX3_readChoice_64 ?_
            refine b_callVI hO mdX3_readSum mvX3_readSum w828 (ci := 3) rfl rfl (by decide) kLX_2 (As := [.int _]) (st := []) (hrec.1 _ _) (by omega) rfl rfl (Nat.le_of_ble_eq_true rfl) dX3_readChoice_65 (fun z65 => ?_)
            refine b_if_eq hO dX3_readChoice_68 (tgt := 96) (by decide) ?_ ?_
            · refine b_iconst hO dX3_readChoice_96 ic_i_0 ?_
              exact b_zretc hO (Or.inl rfl) dX3_readChoice_97
            · refine b_aload_n hO dX3_readChoice_71 0 rfl rfl ?_
              refine b_get hO flX3_15 kLX_2 (v := .ref (ad 3)) rfl dX3_readChoice_72 ?_
              refine b_bipush hO dX3_readChoice_75 ic_b_41 ?_
              refine b_callVI hO mdX8_skip mvX8_skip w859 (ci := 8) rfl rfl (by decide) kLX_3 (As := [.int _]) (st := []) (ctX8_skip n0 hO.2.2.2.2.2.2.1 _ _) (by omega) rfl rfl (Nat.le_of_ble_eq_true rfl) dX3_readChoice_77 (fun z77 => ?_)
              refine b_if_eq hO dX3_readChoice_80 (tgt := 96) (by decide) ?_ ?_
              · refine b_iconst hO dX3_readChoice_96 ic_i_0 ?_
                exact b_zretc hO (Or.inl rfl) dX3_readChoice_97
              · refine b_aload_n hO dX3_readChoice_83 0 rfl rfl ?_
                refine b_bipush hO dX3_readChoice_84 ic_b_m14 ?_
                refine b_callVI hO mdX3_add mvX3_add w860 (ci := 3) rfl rfl (by decide) kLX_2 (As := [.int _]) (st := []) (ctX3_add n0 hO.2.2.2.2.2.2.1 _ _) (by omega) rfl rfl (Nat.le_of_ble_eq_true rfl) dX3_readChoice_86 (fun z86 => ?_)
                refine b_if_eq hO dX3_readChoice_89 (tgt := 96) (by decide) ?_ ?_
                · refine b_iconst hO dX3_readChoice_96 ic_i_0 ?_
                  exact b_zretc hO (Or.inl rfl) dX3_readChoice_97
                · refine b_iconst hO dX3_readChoice_92 ic_i_1 ?_
                  refine b_goto hO dX3_readChoice_93 (tgt := 97) (by decide) ?_
                  exact b_zretc hO (Or.inr rfl) dX3_readChoice_97
theorem ctX3_readChoice (n0 : Nat) (rec : Nat → Int32 → Int32 → Mem → Option (Int32 × Mem)) (hI : Inj LX ad) (hrec : recOK l LX D cy ad 5 dd rec) (x1 : Int32) (M : Mem) : CT l LX D cy ad yX3_readChoice cX3_readChoice 2 (some .boolean) (5 + dd + 1) (QI LX D cy ad) [.ref (ad 2), .int x1] M (fX3_readChoice n0 rec x1 M) :=
  CT.mk LXok hI (by decide) (Nat.le_of_ble_eq_true rfl) (fun hO => tfX3_readChoice n0 rec hO hrec x1 M)
/-! X3_readTest -/
def bX3_readTest_12 (n0 : Nat) (rec : Nat → Int32 → Int32 → Mem → Option (Int32 × Mem)) (k12 : Int32 → Int32 → Mem → Option (Int32 × Mem)) (x1 : Int32) (x2 : Int32) (M : Mem) : Option (Int32 × Mem) :=
  if (1600 : Int32) ≤ x2 then
    some ((1 : Int32), M)
  else
    if (gI M 386) = (279 : Int32) then
      (fX8_advance n0 M).bind fun z36 =>
      (rec 6 x1 (0 : Int32) z36).bind fun z41 =>
      if z41.1 = 0 then
        some ((0 : Int32), z41.2)
      else
        (fX0_add n0 (gR z41.2 257) (-19 : Int32) z41.2).bind fun z55 =>
        k12 x1 (x2 + (1 : Int32)) z55
    else
      some ((1 : Int32), M)
def fX3_readTest_12 (n0 : Nat) (rec : Nat → Int32 → Int32 → Mem → Option (Int32 × Mem)) : Int32 → Int32 → Mem → Option (Int32 × Mem) := loopN (bX3_readTest_12 n0 rec) (fun _ _ _ => none) n0
def fX3_readTest (n0 : Nat) (rec : Nat → Int32 → Int32 → Mem → Option (Int32 × Mem)) (x1 : Int32) (M : Mem) : Option (Int32 × Mem) :=
  (rec 6 x1 (0 : Int32) M).bind fun z2 =>
  if z2.1 = 0 then
    some ((0 : Int32), z2.2)
  else
    fX3_readTest_12 n0 rec x1 (0 : Int32) z2.2
theorem tbX3_readTest_12 (n0 : Nat) (rec : Nat → Int32 → Int32 → Mem → Option (Int32 × Mem)) (hO : OKc p (rmL (5 + dd + 1)) s m args meth c LX D cy ad cX3_readTest RX3 3 (5 + dd + 1) (some .boolean)) (hrec : recOK l LX D cy ad 5 dd rec) (k12 : Int32 → Int32 → Mem → Option (Int32 × Mem)) (hk12 : ∀ (x1 : Int32) (x2 : Int32) (M : Mem), BL p l e (rmL (5 + dd + 1)) s m args below meth c LX D cy ad 3 (QI LX D cy ad) 12 [(0, .ref (ad 2)), (1, .int x1), (2, .int x2)] [] M (k12 x1 x2 M)) (x1 : Int32) (x2 : Int32) (M : Mem) : BL p l e (rmL (5 + dd + 1)) s m args below meth c LX D cy ad 3 (QI LX D cy ad) 12 [(0, .ref (ad 2)), (1, .int x1), (2, .int x2)] [] M (bX3_readTest_12 n0 rec k12 x1 x2 M) := by
  unfold bX3_readTest_12
  refine b_iload_n hO dX3_readTest_12 2 rfl rfl ?_
  refine b_sipush hO dX3_readTest_13 ic_s_1600 ?_
  refine b_icmp_ge hO dX3_readTest_16 (tgt := 64) (by decide) ?_ ?_
  · refine b_iconst hO dX3_readTest_64 ic_i_1 ?_
    exact b_zretc hO (Or.inr rfl) dX3_readTest_65
  · refine b_aload_n hO dX3_readTest_19 0 rfl rfl ?_
    refine b_get hO flX3_15 kLX_2 (v := .ref (ad 3)) rfl dX3_readTest_20 ?_
    refine b_get hO flX3_30 kLX_3 (v := .int (gI _ 386)) rfl dX3_readTest_23 ?_
    refine b_sipush hO dX3_readTest_26 ic_s_279 ?_
    refine b_icmp_ne hO dX3_readTest_29 (tgt := 64) (by decide) ?_ ?_
    · refine b_iconst hO dX3_readTest_64 ic_i_1 ?_
      exact b_zretc hO (Or.inr rfl) dX3_readTest_65
    · refine b_aload_n hO dX3_readTest_32 0 rfl rfl ?_
      refine b_get hO flX3_15 kLX_2 (v := .ref (ad 3)) rfl dX3_readTest_33 ?_
      refine b_callVV hO mdX8_advance mvX8_advance w848 (ci := 8) rfl rfl (by decide) kLX_3 (As := []) (st := []) (ctX8_advance n0 hO.2.2.2.2.2.2.1 _) (by omega) rfl rfl (Nat.le_of_ble_eq_true rfl) dX3_readTest_36 (fun z36 => ?_)
      refine b_aload_n hO dX3_readTest_39 0 rfl rfl ?_
      refine b_iload_n hO dX3_readTest_40 1 rfl rfl ?_
      refine b_callVI hO mdX3_readBoth mvX3_readBoth w872 (ci := 3) rfl rfl (by decide) kLX_2 (As := [.int _]) (st := []) (hrec.2.2.2.2.2.2.1 _ _) (by omega) rfl rfl (Nat.le_of_ble_eq_true rfl) dX3_readTest_41 (fun z41 => ?_)
      refine b_if_ne hO dX3_readTest_44 (tgt := 49) (by decide) ?_ ?_
      · refine b_aload_n hO dX3_readTest_49 0 rfl rfl ?_
        refine b_getR hO flX3_19 kLX_2 (id := 257) rfl rfl (rk := 0) rfl (by decide) dX3_readTest_50 (fun hg1 => ?_)
        refine b_bipush hO dX3_readTest_53 ic_b_m19 ?_
        refine b_callVV hO mdX0_add mvX0_add w844 (ci := 0) rfl rfl (by decide) hg1 (As := [.int _]) (st := []) (ctX0_add n0 _ hg1 hO.2.2.2.2.2.2.1 _ _) (by omega) rfl rfl (Nat.le_of_ble_eq_true rfl) dX3_readTest_55 (fun z55 => ?_)
        refine b_iinc hO dX3_readTest_58 2 rfl ic_i_1 (by decide) (lv' := [(2, .int _), (0, .ref _), (1, .int _)]) rfl ?_
        refine b_goto hO dX3_readTest_61 (tgt := 12) (by decide) ?_
        refine b_sub [1, 2, 0] rfl ?_
        exact hk12 _ _ _
      · refine b_iconst hO dX3_readTest_47 ic_i_0 ?_
        exact b_zretc hO (Or.inl rfl) dX3_readTest_48
theorem lX3_readTest_12 (n0 : Nat) (rec : Nat → Int32 → Int32 → Mem → Option (Int32 × Mem)) (hO : OKc p (rmL (5 + dd + 1)) s m args meth c LX D cy ad cX3_readTest RX3 3 (5 + dd + 1) (some .boolean)) (hrec : recOK l LX D cy ad 5 dd rec) : ∀ (w : Nat) (x1 : Int32) (x2 : Int32) (M : Mem), BL p l e (rmL (5 + dd + 1)) s m args below meth c LX D cy ad 3 (QI LX D cy ad) 12 [(0, .ref (ad 2)), (1, .int x1), (2, .int x2)] [] M (loopN (bX3_readTest_12 n0 rec) (fun _ _ _ => none) w x1 x2 M) := by
  intro w
  induction w with
  | zero =>
    intros
    exact b_none
  | succ w ih =>
    intro x1 x2 M
    exact tbX3_readTest_12 n0 rec hO hrec _ ih x1 x2 M
theorem tfX3_readTest_12 (n0 : Nat) (rec : Nat → Int32 → Int32 → Mem → Option (Int32 × Mem)) (hO : OKc p (rmL (5 + dd + 1)) s m args meth c LX D cy ad cX3_readTest RX3 3 (5 + dd + 1) (some .boolean)) (hrec : recOK l LX D cy ad 5 dd rec) (x1 : Int32) (x2 : Int32) (M : Mem) : BL p l e (rmL (5 + dd + 1)) s m args below meth c LX D cy ad 3 (QI LX D cy ad) 12 [(0, .ref (ad 2)), (1, .int x1), (2, .int x2)] [] M (fX3_readTest_12 n0 rec x1 x2 M) := lX3_readTest_12 n0 rec hO hrec n0 x1 x2 M
theorem tfX3_readTest (n0 : Nat) (rec : Nat → Int32 → Int32 → Mem → Option (Int32 × Mem)) (hO : OKc p (rmL (5 + dd + 1)) s m args meth c LX D cy ad cX3_readTest RX3 3 (5 + dd + 1) (some .boolean)) (hrec : recOK l LX D cy ad 5 dd rec) (x1 : Int32) (M : Mem) : BL p l e (rmL (5 + dd + 1)) s m args below meth c LX D cy ad 3 (QI LX D cy ad) 0 [(0, .ref (ad 2)), (1, .int x1)] [] M (fX3_readTest n0 rec x1 M) := by
  unfold fX3_readTest
  refine b_aload_n hO dX3_readTest_0 0 rfl rfl ?_
  refine b_iload_n hO dX3_readTest_1 1 rfl rfl ?_
  refine b_callVI hO mdX3_readBoth mvX3_readBoth w872 (ci := 3) rfl rfl (by decide) kLX_2 (As := [.int _]) (st := []) (hrec.2.2.2.2.2.2.1 _ _) (by omega) rfl rfl (Nat.le_of_ble_eq_true rfl) dX3_readTest_2 (fun z2 => ?_)
  refine b_if_ne hO dX3_readTest_5 (tgt := 10) (by decide) ?_ ?_
  · refine b_iconst hO dX3_readTest_10 ic_i_0 ?_
    refine b_istore_n hO dX3_readTest_11 rfl (by decide) (lv' := [(2, .int _), (0, .ref _), (1, .int _)]) rfl ?_
    refine b_sub [1, 2, 0] rfl ?_
    exact tfX3_readTest_12 n0 rec hO hrec _ _ _
  · refine b_iconst hO dX3_readTest_8 ic_i_0 ?_
    exact b_zretc hO (Or.inl rfl) dX3_readTest_9
theorem ctX3_readTest (n0 : Nat) (rec : Nat → Int32 → Int32 → Mem → Option (Int32 × Mem)) (hI : Inj LX ad) (hrec : recOK l LX D cy ad 5 dd rec) (x1 : Int32) (M : Mem) : CT l LX D cy ad yX3_readTest cX3_readTest 3 (some .boolean) (5 + dd + 1) (QI LX D cy ad) [.ref (ad 2), .int x1] M (fX3_readTest n0 rec x1 M) :=
  CT.mk LXok hI (by decide) (Nat.le_of_ble_eq_true rfl) (fun hO => tfX3_readTest n0 rec hO hrec x1 M)
/-! X3_readBoth -/
def bX3_readBoth_12 (n0 : Nat) (rec : Nat → Int32 → Int32 → Mem → Option (Int32 × Mem)) (k12 : Int32 → Int32 → Mem → Option (Int32 × Mem)) (x1 : Int32) (x2 : Int32) (M : Mem) : Option (Int32 × Mem) :=
  if (1600 : Int32) ≤ x2 then
    some ((1 : Int32), M)
  else
    if (gI M 386) = (280 : Int32) then
      (fX8_advance n0 M).bind fun z36 =>
      (rec 7 x1 (0 : Int32) z36).bind fun z41 =>
      if z41.1 = 0 then
        some ((0 : Int32), z41.2)
      else
        (fX0_add n0 (gR z41.2 257) (-18 : Int32) z41.2).bind fun z55 =>
        k12 x1 (x2 + (1 : Int32)) z55
    else
      some ((1 : Int32), M)
def fX3_readBoth_12 (n0 : Nat) (rec : Nat → Int32 → Int32 → Mem → Option (Int32 × Mem)) : Int32 → Int32 → Mem → Option (Int32 × Mem) := loopN (bX3_readBoth_12 n0 rec) (fun _ _ _ => none) n0
def fX3_readBoth (n0 : Nat) (rec : Nat → Int32 → Int32 → Mem → Option (Int32 × Mem)) (x1 : Int32) (M : Mem) : Option (Int32 × Mem) :=
  (rec 7 x1 (0 : Int32) M).bind fun z2 =>
  if z2.1 = 0 then
    some ((0 : Int32), z2.2)
  else
    fX3_readBoth_12 n0 rec x1 (0 : Int32) z2.2
theorem tbX3_readBoth_12 (n0 : Nat) (rec : Nat → Int32 → Int32 → Mem → Option (Int32 × Mem)) (hO : OKc p (rmL (5 + dd + 1)) s m args meth c LX D cy ad cX3_readBoth RX3 3 (5 + dd + 1) (some .boolean)) (hrec : recOK l LX D cy ad 5 dd rec) (k12 : Int32 → Int32 → Mem → Option (Int32 × Mem)) (hk12 : ∀ (x1 : Int32) (x2 : Int32) (M : Mem), BL p l e (rmL (5 + dd + 1)) s m args below meth c LX D cy ad 3 (QI LX D cy ad) 12 [(0, .ref (ad 2)), (1, .int x1), (2, .int x2)] [] M (k12 x1 x2 M)) (x1 : Int32) (x2 : Int32) (M : Mem) : BL p l e (rmL (5 + dd + 1)) s m args below meth c LX D cy ad 3 (QI LX D cy ad) 12 [(0, .ref (ad 2)), (1, .int x1), (2, .int x2)] [] M (bX3_readBoth_12 n0 rec k12 x1 x2 M) := by
  unfold bX3_readBoth_12
  refine b_iload_n hO dX3_readBoth_12 2 rfl rfl ?_
  refine b_sipush hO dX3_readBoth_13 ic_s_1600 ?_
  refine b_icmp_ge hO dX3_readBoth_16 (tgt := 64) (by decide) ?_ ?_
  · refine b_iconst hO dX3_readBoth_64 ic_i_1 ?_
    exact b_zretc hO (Or.inr rfl) dX3_readBoth_65
  · refine b_aload_n hO dX3_readBoth_19 0 rfl rfl ?_
    refine b_get hO flX3_15 kLX_2 (v := .ref (ad 3)) rfl dX3_readBoth_20 ?_
    refine b_get hO flX3_30 kLX_3 (v := .int (gI _ 386)) rfl dX3_readBoth_23 ?_
    refine b_sipush hO dX3_readBoth_26 ic_s_280 ?_
    refine b_icmp_ne hO dX3_readBoth_29 (tgt := 64) (by decide) ?_ ?_
    · refine b_iconst hO dX3_readBoth_64 ic_i_1 ?_
      exact b_zretc hO (Or.inr rfl) dX3_readBoth_65
    · refine b_aload_n hO dX3_readBoth_32 0 rfl rfl ?_
      refine b_get hO flX3_15 kLX_2 (v := .ref (ad 3)) rfl dX3_readBoth_33 ?_
      refine b_callVV hO mdX8_advance mvX8_advance w848 (ci := 8) rfl rfl (by decide) kLX_3 (As := []) (st := []) (ctX8_advance n0 hO.2.2.2.2.2.2.1 _) (by omega) rfl rfl (Nat.le_of_ble_eq_true rfl) dX3_readBoth_36 (fun z36 => ?_)
      refine b_aload_n hO dX3_readBoth_39 0 rfl rfl ?_
      refine b_iload_n hO dX3_readBoth_40 1 rfl rfl ?_
      refine b_callVI hO mdX3_readFact mvX3_readFact w876 (ci := 3) rfl rfl (by decide) kLX_2 (As := [.int _]) (st := []) (hrec.2.2.2.2.2.2.2.1 _ _) (by omega) rfl rfl (Nat.le_of_ble_eq_true rfl) dX3_readBoth_41 (fun z41 => ?_)
      refine b_if_ne hO dX3_readBoth_44 (tgt := 49) (by decide) ?_ ?_
      · refine b_aload_n hO dX3_readBoth_49 0 rfl rfl ?_
        refine b_getR hO flX3_19 kLX_2 (id := 257) rfl rfl (rk := 0) rfl (by decide) dX3_readBoth_50 (fun hg1 => ?_)
        refine b_bipush hO dX3_readBoth_53 ic_b_m18 ?_
        refine b_callVV hO mdX0_add mvX0_add w844 (ci := 0) rfl rfl (by decide) hg1 (As := [.int _]) (st := []) (ctX0_add n0 _ hg1 hO.2.2.2.2.2.2.1 _ _) (by omega) rfl rfl (Nat.le_of_ble_eq_true rfl) dX3_readBoth_55 (fun z55 => ?_)
        refine b_iinc hO dX3_readBoth_58 2 rfl ic_i_1 (by decide) (lv' := [(2, .int _), (0, .ref _), (1, .int _)]) rfl ?_
        refine b_goto hO dX3_readBoth_61 (tgt := 12) (by decide) ?_
        refine b_sub [1, 2, 0] rfl ?_
        exact hk12 _ _ _
      · refine b_iconst hO dX3_readBoth_47 ic_i_0 ?_
        exact b_zretc hO (Or.inl rfl) dX3_readBoth_48
theorem lX3_readBoth_12 (n0 : Nat) (rec : Nat → Int32 → Int32 → Mem → Option (Int32 × Mem)) (hO : OKc p (rmL (5 + dd + 1)) s m args meth c LX D cy ad cX3_readBoth RX3 3 (5 + dd + 1) (some .boolean)) (hrec : recOK l LX D cy ad 5 dd rec) : ∀ (w : Nat) (x1 : Int32) (x2 : Int32) (M : Mem), BL p l e (rmL (5 + dd + 1)) s m args below meth c LX D cy ad 3 (QI LX D cy ad) 12 [(0, .ref (ad 2)), (1, .int x1), (2, .int x2)] [] M (loopN (bX3_readBoth_12 n0 rec) (fun _ _ _ => none) w x1 x2 M) := by
  intro w
  induction w with
  | zero =>
    intros
    exact b_none
  | succ w ih =>
    intro x1 x2 M
    exact tbX3_readBoth_12 n0 rec hO hrec _ ih x1 x2 M
theorem tfX3_readBoth_12 (n0 : Nat) (rec : Nat → Int32 → Int32 → Mem → Option (Int32 × Mem)) (hO : OKc p (rmL (5 + dd + 1)) s m args meth c LX D cy ad cX3_readBoth RX3 3 (5 + dd + 1) (some .boolean)) (hrec : recOK l LX D cy ad 5 dd rec) (x1 : Int32) (x2 : Int32) (M : Mem) : BL p l e (rmL (5 + dd + 1)) s m args below meth c LX D cy ad 3 (QI LX D cy ad) 12 [(0, .ref (ad 2)), (1, .int x1), (2, .int x2)] [] M (fX3_readBoth_12 n0 rec x1 x2 M) := lX3_readBoth_12 n0 rec hO hrec n0 x1 x2 M
theorem tfX3_readBoth (n0 : Nat) (rec : Nat → Int32 → Int32 → Mem → Option (Int32 × Mem)) (hO : OKc p (rmL (5 + dd + 1)) s m args meth c LX D cy ad cX3_readBoth RX3 3 (5 + dd + 1) (some .boolean)) (hrec : recOK l LX D cy ad 5 dd rec) (x1 : Int32) (M : Mem) : BL p l e (rmL (5 + dd + 1)) s m args below meth c LX D cy ad 3 (QI LX D cy ad) 0 [(0, .ref (ad 2)), (1, .int x1)] [] M (fX3_readBoth n0 rec x1 M) := by
  unfold fX3_readBoth
  refine b_aload_n hO dX3_readBoth_0 0 rfl rfl ?_
  refine b_iload_n hO dX3_readBoth_1 1 rfl rfl ?_
  refine b_callVI hO mdX3_readFact mvX3_readFact w876 (ci := 3) rfl rfl (by decide) kLX_2 (As := [.int _]) (st := []) (hrec.2.2.2.2.2.2.2.1 _ _) (by omega) rfl rfl (Nat.le_of_ble_eq_true rfl) dX3_readBoth_2 (fun z2 => ?_)
  refine b_if_ne hO dX3_readBoth_5 (tgt := 10) (by decide) ?_ ?_
  · refine b_iconst hO dX3_readBoth_10 ic_i_0 ?_
    refine b_istore_n hO dX3_readBoth_11 rfl (by decide) (lv' := [(2, .int _), (0, .ref _), (1, .int _)]) rfl ?_
    refine b_sub [1, 2, 0] rfl ?_
    exact tfX3_readBoth_12 n0 rec hO hrec _ _ _
  · refine b_iconst hO dX3_readBoth_8 ic_i_0 ?_
    exact b_zretc hO (Or.inl rfl) dX3_readBoth_9
theorem ctX3_readBoth (n0 : Nat) (rec : Nat → Int32 → Int32 → Mem → Option (Int32 × Mem)) (hI : Inj LX ad) (hrec : recOK l LX D cy ad 5 dd rec) (x1 : Int32) (M : Mem) : CT l LX D cy ad yX3_readBoth cX3_readBoth 3 (some .boolean) (5 + dd + 1) (QI LX D cy ad) [.ref (ad 2), .int x1] M (fX3_readBoth n0 rec x1 M) :=
  CT.mk LXok hI (by decide) (Nat.le_of_ble_eq_true rfl) (fun hO => tfX3_readBoth n0 rec hO hrec x1 M)
/-! X3_readFact -/
def fX3_readFact (n0 : Nat) (rec : Nat → Int32 → Int32 → Mem → Option (Int32 × Mem)) (x1 : Int32) (M : Mem) : Option (Int32 × Mem) :=
  if (gI M 386) = 91 then
    (fX3_goIn n0 (91 : Int32) x1 M).bind fun z88 =>
    if z88.1 = 0 then
      some ((0 : Int32), z88.2)
    else
      (rec 5 (x1 + (1 : Int32)) (0 : Int32) z88.2).bind fun z98 =>
      if z98.1 = 0 then
        some ((0 : Int32), z98.2)
      else
        (fX8_skip n0 (93 : Int32) z98.2).bind fun z110 =>
        if z110.1 = 0 then
          some ((0 : Int32), z110.2)
        else
          some ((1 : Int32), z110.2)
  else
  if (gI M 386) = 281 then
    (fX3_goIn n0 (281 : Int32) x1 M).bind fun z45 =>
    if z45.1 = 0 then
      some ((0 : Int32), z45.2)
    else
      (rec 7 (x1 + (1 : Int32)) (0 : Int32) z45.2).bind fun z55 =>
      if z55.1 = 0 then
        some ((0 : Int32), z55.2)
      else
        (fX3_add n0 (0 : Int32) z55.2).bind fun z63 =>
        if z63.1 = 0 then
          some ((0 : Int32), z63.2)
        else
          (fX3_add n0 (-17 : Int32) z63.2).bind fun z72 =>
          if z72.1 = 0 then
            some ((0 : Int32), z72.2)
          else
            some ((1 : Int32), z72.2)
  else
  if (gI M 386) = 282 then
    (fX3_addAndAdvance n0 (1 : Int32) M).bind fun z124 =>
    if z124.1 = 0 ∨ z124.1 = 1 then some (z124.1, z124.2) else none
  else
  (rec 8 x1 (0 : Int32) M).bind fun z130 =>
  if z130.1 = 0 ∨ z130.1 = 1 then some (z130.1, z130.2) else none
theorem tfX3_readFact (n0 : Nat) (rec : Nat → Int32 → Int32 → Mem → Option (Int32 × Mem)) (hO : OKc p (rmL (5 + dd + 1)) s m args meth c LX D cy ad cX3_readFact RX3 2 (5 + dd + 1) (some .boolean)) (hrec : recOK l LX D cy ad 5 dd rec) (x1 : Int32) (M : Mem) : BL p l e (rmL (5 + dd + 1)) s m args below meth c LX D cy ad 2 (QI LX D cy ad) 0 [(0, .ref (ad 2)), (1, .int x1)] [] M (fX3_readFact n0 rec x1 M) := by
  unfold fX3_readFact
  refine b_aload_n hO dX3_readFact_0 0 rfl rfl ?_
  refine b_get hO flX3_15 kLX_2 (v := .ref (ad 3)) rfl dX3_readFact_1 ?_
  refine b_get hO flX3_30 kLX_3 (v := .int (gI _ 386)) rfl dX3_readFact_4 ?_
  refine b_lookIn hO dX3_readFact_7 (v := 91) (z := 91) (tgt := 84) (by decide) (by decide) rfl (by decide) ?_ (fun hn0 => ?_)
  · refine b_aload_n hO dX3_readFact_84 0 rfl rfl ?_
    refine b_bipush hO dX3_readFact_85 ic_b_91 ?_
    refine b_iload_n hO dX3_readFact_87 1 rfl rfl ?_
    refine b_callVI hO mdX3_goIn mvX3_goIn w854 (ci := 3) rfl rfl (by decide) kLX_2 (As := [.int _, .int _]) (st := []) (ctX3_goIn n0 hO.2.2.2.2.2.2.1 _ _ _) (by omega) rfl rfl (Nat.le_of_ble_eq_true rfl) dX3_readFact_88 (fun z88 => ?_)
    refine b_if_eq hO dX3_readFact_91 (tgt := 120) (by decide) ?_ ?_
    · refine b_iconst hO dX3_readFact_120 ic_i_0 ?_
      exact b_zretc hO (Or.inl rfl) dX3_readFact_121
    · refine b_aload_n hO dX3_readFact_94 0 rfl rfl ?_
      refine b_iload_n hO dX3_readFact_95 1 rfl rfl ?_
      refine b_iconst hO dX3_readFact_96 ic_i_1 ?_
      refine b_iadd hO dX3_readFact_97 ?_
      refine b_callVI hO mdX3_readTest mvX3_readTest w868 (ci := 3) rfl rfl (by decide) kLX_2 (As := [.int _]) (st := []) (hrec.2.2.2.2.2.1 _ _) (by omega) rfl rfl (Nat.le_of_ble_eq_true rfl) dX3_readFact_98 (fun z98 => ?_)
      refine b_if_eq hO dX3_readFact_101 (tgt := 120) (by decide) ?_ ?_
      · refine b_iconst hO dX3_readFact_120 ic_i_0 ?_
        exact b_zretc hO (Or.inl rfl) dX3_readFact_121
      · refine b_aload_n hO dX3_readFact_104 0 rfl rfl ?_
        refine b_get hO flX3_15 kLX_2 (v := .ref (ad 3)) rfl dX3_readFact_105 ?_
        refine b_bipush hO dX3_readFact_108 ic_b_93 ?_
        refine b_callVI hO mdX8_skip mvX8_skip w859 (ci := 8) rfl rfl (by decide) kLX_3 (As := [.int _]) (st := []) (ctX8_skip n0 hO.2.2.2.2.2.2.1 _ _) (by omega) rfl rfl (Nat.le_of_ble_eq_true rfl) dX3_readFact_110 (fun z110 => ?_)
        refine b_if_eq hO dX3_readFact_113 (tgt := 120) (by decide) ?_ ?_
        · refine b_iconst hO dX3_readFact_120 ic_i_0 ?_
          exact b_zretc hO (Or.inl rfl) dX3_readFact_121
        · refine b_iconst hO dX3_readFact_116 ic_i_1 ?_
          refine b_goto hO dX3_readFact_117 (tgt := 121) (by decide) ?_
          exact b_zretc hO (Or.inr rfl) dX3_readFact_121
  refine b_lookIn hO dX3_readFact_7 (v := 281) (z := 281) (tgt := 40) (by decide) (by decide) rfl (by decide) ?_ (fun hn1 => ?_)
  · refine b_aload_n hO dX3_readFact_40 0 rfl rfl ?_
    refine b_sipush hO dX3_readFact_41 ic_s_281 ?_
    refine b_iload_n hO dX3_readFact_44 1 rfl rfl ?_
    refine b_callVI hO mdX3_goIn mvX3_goIn w854 (ci := 3) rfl rfl (by decide) kLX_2 (As := [.int _, .int _]) (st := []) (ctX3_goIn n0 hO.2.2.2.2.2.2.1 _ _ _) (by omega) rfl rfl (Nat.le_of_ble_eq_true rfl) dX3_readFact_45 (fun z45 => ?_)
    refine b_if_eq hO dX3_readFact_48 (tgt := 82) (by decide) ?_ ?_
    · refine b_iconst hO dX3_readFact_82 ic_i_0 ?_
      exact b_zretc hO (Or.inl rfl) dX3_readFact_83
    · refine b_aload_n hO dX3_readFact_51 0 rfl rfl ?_
      refine b_iload_n hO dX3_readFact_52 1 rfl rfl ?_
      refine b_iconst hO dX3_readFact_53 ic_i_1 ?_
      refine b_iadd hO dX3_readFact_54 ?_
      refine b_callVI hO mdX3_readFact mvX3_readFact w876 (ci := 3) rfl rfl (by decide) kLX_2 (As := [.int _]) (st := []) (hrec.2.2.2.2.2.2.2.1 _ _) (by omega) rfl rfl (Nat.le_of_ble_eq_true rfl) dX3_readFact_55 (fun z55 => ?_)
      refine b_if_eq hO dX3_readFact_58 (tgt := 82) (by decide) ?_ ?_
      · refine b_iconst hO dX3_readFact_82 ic_i_0 ?_
        exact b_zretc hO (Or.inl rfl) dX3_readFact_83
      · refine b_aload_n hO dX3_readFact_61 0 rfl rfl ?_
        refine b_iconst hO dX3_readFact_62 ic_i_0 ?_
        refine b_callVI hO mdX3_add mvX3_add w860 (ci := 3) rfl rfl (by decide) kLX_2 (As := [.int _]) (st := []) (ctX3_add n0 hO.2.2.2.2.2.2.1 _ _) (by omega) rfl rfl (Nat.le_of_ble_eq_true rfl) dX3_readFact_63 (fun z63 => ?_)
        refine b_if_eq hO dX3_readFact_66 (tgt := 82) (by decide) ?_ ?_
        · refine b_iconst hO dX3_readFact_82 ic_i_0 ?_
          exact b_zretc hO (Or.inl rfl) dX3_readFact_83
        · refine b_aload_n hO dX3_readFact_69 0 rfl rfl ?_
          refine b_bipush hO dX3_readFact_70 ic_b_m17 ?_
          refine b_callVI hO mdX3_add mvX3_add w860 (ci := 3) rfl rfl (by decide) kLX_2 (As := [.int _]) (st := []) (ctX3_add n0 hO.2.2.2.2.2.2.1 _ _) (by omega) rfl rfl (Nat.le_of_ble_eq_true rfl) dX3_readFact_72 (fun z72 => ?_)
          refine b_if_eq hO dX3_readFact_75 (tgt := 82) (by decide) ?_ ?_
          · refine b_iconst hO dX3_readFact_82 ic_i_0 ?_
            exact b_zretc hO (Or.inl rfl) dX3_readFact_83
          · refine b_iconst hO dX3_readFact_78 ic_i_1 ?_
            refine b_goto hO dX3_readFact_79 (tgt := 83) (by decide) ?_
            exact b_zretc hO (Or.inr rfl) dX3_readFact_83
  refine b_lookIn hO dX3_readFact_7 (v := 282) (z := 282) (tgt := 122) (by decide) (by decide) rfl (by decide) ?_ (fun hn2 => ?_)
  · refine b_aload_n hO dX3_readFact_122 0 rfl rfl ?_
    refine b_iconst hO dX3_readFact_123 ic_i_1 ?_
    refine b_callVI hO mdX3_addAndAdvance mvX3_addAndAdvance w840 (ci := 3) rfl rfl (by decide) kLX_2 (As := [.int _]) (st := []) (ctX3_addAndAdvance n0 hO.2.2.2.2.2.2.1 _ _) (by omega) rfl rfl (Nat.le_of_ble_eq_true rfl) dX3_readFact_124 (fun z124 => ?_)
    exact b_zret hO dX3_readFact_127
  refine b_lookOut hO dX3_readFact_7 (tgt := 128) (by decide) (by rw [lv_osw hn0 (by decide)]; rw [lv_osw hn1 (by decide)]; rw [lv_osw hn2 (by decide)]; rfl) (by decide) ?_
  refine b_aload_n hO dX3_readFact_128 0 rfl rfl ?_
  refine b_iload_n hO dX3_readFact_129 1 rfl rfl ?_
  refine b_callVI hO mdX3_readComparison mvX3_readComparison w880 (ci := 3) rfl rfl (by decide) kLX_2 (As := [.int _]) (st := []) (hrec.2.2.2.2.2.2.2.2 _ _) (by omega) rfl rfl (Nat.le_of_ble_eq_true rfl) dX3_readFact_130 (fun z130 => ?_)
  exact b_zret hO dX3_readFact_133
theorem ctX3_readFact (n0 : Nat) (rec : Nat → Int32 → Int32 → Mem → Option (Int32 × Mem)) (hI : Inj LX ad) (hrec : recOK l LX D cy ad 5 dd rec) (x1 : Int32) (M : Mem) : CT l LX D cy ad yX3_readFact cX3_readFact 2 (some .boolean) (5 + dd + 1) (QI LX D cy ad) [.ref (ad 2), .int x1] M (fX3_readFact n0 rec x1 M) :=
  CT.mk LXok hI (by decide) (Nat.le_of_ble_eq_true rfl) (fun hO => tfX3_readFact n0 rec hO hrec x1 M)
/-! X3_readComparison -/
def fX3_readComparison (n0 : Nat) (rec : Nat → Int32 → Int32 → Mem → Option (Int32 × Mem)) (x1 : Int32) (M : Mem) : Option (Int32 × Mem) :=
  (rec 0 x1 (0 : Int32) M).bind fun z2 =>
  if z2.1 = 0 then
    some ((0 : Int32), z2.2)
  else
    (fX3_comparisonStep n0 z2.2).bind fun z11 =>
    if z11.1 = 0 then
      (fX8_failHere n0 z11.2).bind fun z23 =>
      if z23.1 = 0 ∨ z23.1 = 1 then some (z23.1, z23.2) else none
    else
      (fX8_advance n0 z11.2).bind fun z31 =>
      (rec 0 x1 (0 : Int32) z31).bind fun z36 =>
      if z36.1 = 0 then
        some ((0 : Int32), z36.2)
      else
        (fX3_add n0 z11.1 z36.2).bind fun z44 =>
        if z44.1 = 0 then
          some ((0 : Int32), z44.2)
        else
          some ((1 : Int32), z44.2)
theorem tfX3_readComparison (n0 : Nat) (rec : Nat → Int32 → Int32 → Mem → Option (Int32 × Mem)) (hO : OKc p (rmL (5 + dd + 1)) s m args meth c LX D cy ad cX3_readComparison RX3 3 (5 + dd + 1) (some .boolean)) (hrec : recOK l LX D cy ad 5 dd rec) (x1 : Int32) (M : Mem) : BL p l e (rmL (5 + dd + 1)) s m args below meth c LX D cy ad 3 (QI LX D cy ad) 0 [(0, .ref (ad 2)), (1, .int x1)] [] M (fX3_readComparison n0 rec x1 M) := by
  unfold fX3_readComparison
  refine b_aload_n hO dX3_readComparison_0 0 rfl rfl ?_
  refine b_iload_n hO dX3_readComparison_1 1 rfl rfl ?_
  refine b_callVI hO mdX3_readSum mvX3_readSum w828 (ci := 3) rfl rfl (by decide) kLX_2 (As := [.int _]) (st := []) (hrec.1 _ _) (by omega) rfl rfl (Nat.le_of_ble_eq_true rfl) dX3_readComparison_2 (fun z2 => ?_)
  refine b_if_ne hO dX3_readComparison_5 (tgt := 10) (by decide) ?_ ?_
  · refine b_aload_n hO dX3_readComparison_10 0 rfl rfl ?_
    refine b_callVI hO mdX3_comparisonStep mvX3_comparisonStep w884 (ci := 3) rfl rfl (by decide) kLX_2 (As := []) (st := []) (ctX3_comparisonStep n0 hO.2.2.2.2.2.2.1 _) (by omega) rfl rfl (Nat.le_of_ble_eq_true rfl) dX3_readComparison_11 (fun z11 => ?_)
    refine b_istore_n hO dX3_readComparison_14 rfl (by decide) (lv' := [(2, .int _), (0, .ref _), (1, .int _)]) rfl ?_
    refine b_iload_n hO dX3_readComparison_15 0 rfl rfl ?_
    refine b_if_ne hO dX3_readComparison_16 (tgt := 27) (by decide) ?_ ?_
    · refine b_aload_n hO dX3_readComparison_27 1 rfl rfl ?_
      refine b_get hO flX3_15 kLX_2 (v := .ref (ad 3)) rfl dX3_readComparison_28 ?_
      refine b_callVV hO mdX8_advance mvX8_advance w848 (ci := 8) rfl rfl (by decide) kLX_3 (As := []) (st := []) (ctX8_advance n0 hO.2.2.2.2.2.2.1 _) (by omega) rfl rfl (Nat.le_of_ble_eq_true rfl) dX3_readComparison_31 (fun z31 => ?_)
      refine b_aload_n hO dX3_readComparison_34 1 rfl rfl ?_
      refine b_iload_n hO dX3_readComparison_35 2 rfl rfl ?_
      refine b_callVI hO mdX3_readSum mvX3_readSum w828 (ci := 3) rfl rfl (by decide) kLX_2 (As := [.int _]) (st := []) (hrec.1 _ _) (by omega) rfl rfl (Nat.le_of_ble_eq_true rfl) dX3_readComparison_36 (fun z36 => ?_)
      refine b_if_eq hO dX3_readComparison_39 (tgt := 54) (by decide) ?_ ?_
      · refine b_iconst hO dX3_readComparison_54 ic_i_0 ?_
        exact b_zretc hO (Or.inl rfl) dX3_readComparison_55
      · refine b_aload_n hO dX3_readComparison_42 1 rfl rfl ?_
        refine b_iload_n hO dX3_readComparison_43 0 rfl rfl ?_
        refine b_callVI hO mdX3_add mvX3_add w860 (ci := 3) rfl rfl (by decide) kLX_2 (As := [.int _]) (st := []) (ctX3_add n0 hO.2.2.2.2.2.2.1 _ _) (by omega) rfl rfl (Nat.le_of_ble_eq_true rfl) dX3_readComparison_44 (fun z44 => ?_)
        refine b_if_eq hO dX3_readComparison_47 (tgt := 54) (by decide) ?_ ?_
        · refine b_iconst hO dX3_readComparison_54 ic_i_0 ?_
          exact b_zretc hO (Or.inl rfl) dX3_readComparison_55
        · refine b_iconst hO dX3_readComparison_50 ic_i_1 ?_
          refine b_goto hO dX3_readComparison_51 (tgt := 55) (by decide) ?_
          exact b_zretc hO (Or.inr rfl) dX3_readComparison_55
    · refine b_aload_n hO dX3_readComparison_19 1 rfl rfl ?_
      refine b_get hO flX3_15 kLX_2 (v := .ref (ad 3)) rfl dX3_readComparison_20 ?_
      refine b_callVI hO mdX8_failHere mvX8_failHere w849 (ci := 8) rfl rfl (by decide) kLX_3 (As := []) (st := []) (ctX8_failHere n0 hO.2.2.2.2.2.2.1 _) (by omega) rfl rfl (Nat.le_of_ble_eq_true rfl) dX3_readComparison_23 (fun z23 => ?_)
      exact b_zret hO dX3_readComparison_26
  · refine b_iconst hO dX3_readComparison_8 ic_i_0 ?_
    exact b_zretc hO (Or.inl rfl) dX3_readComparison_9
theorem ctX3_readComparison (n0 : Nat) (rec : Nat → Int32 → Int32 → Mem → Option (Int32 × Mem)) (hI : Inj LX ad) (hrec : recOK l LX D cy ad 5 dd rec) (x1 : Int32) (M : Mem) : CT l LX D cy ad yX3_readComparison cX3_readComparison 3 (some .boolean) (5 + dd + 1) (QI LX D cy ad) [.ref (ad 2), .int x1] M (fX3_readComparison n0 rec x1 M) :=
  CT.mk LXok hI (by decide) (Nat.le_of_ble_eq_true rfl) (fun hO => tfX3_readComparison n0 rec hO hrec x1 M)
def recX3F (n0 : Nat) (rec : Nat → Int32 → Int32 → Mem → Option (Int32 × Mem)) (t : Nat) (a b : Int32) (M : Mem) : Option (Int32 × Mem) := if t = 0 then fX3_readSum n0 rec a M else if t = 1 then fX3_readProduct n0 rec a M else if t = 2 then fX3_readPart n0 rec a M else if t = 3 then fX3_readPair n0 rec a b M else if t = 4 then fX3_readChoice n0 rec a M else if t = 5 then fX3_readTest n0 rec a M else if t = 6 then fX3_readBoth n0 rec a M else if t = 7 then fX3_readFact n0 rec a M else if t = 8 then fX3_readComparison n0 rec a M else none
def recX3 (n0 : Nat) : Nat → Nat → Int32 → Int32 → Mem → Option (Int32 × Mem) := loopN (recX3F n0) (fun _ _ _ _ => none)
theorem recX3_ok (n0 : Nat) (hI : Inj LX ad) : ∀ d, recOK l LX D cy ad 5 d (recX3 n0 d)
  | 0 => ⟨fun _ _ => (fun _ h => by cases h), fun _ _ => (fun _ h => by cases h), fun _ _ => (fun _ h => by cases h), fun _ _ _ => (fun _ h => by cases h), fun _ _ => (fun _ h => by cases h), fun _ _ => (fun _ h => by cases h), fun _ _ => (fun _ h => by cases h), fun _ _ => (fun _ h => by cases h), fun _ _ => (fun _ h => by cases h)⟩
  | d + 1 => by
    have ih := recX3_ok n0 hI d
    exact ⟨fun a M => ctX3_readSum n0 (recX3 n0 d) hI ih a M, fun a M => ctX3_readProduct n0 (recX3 n0 d) hI ih a M, fun a M => ctX3_readPart n0 (recX3 n0 d) hI ih a M, fun a b M => ctX3_readPair n0 (recX3 n0 d) hI ih a b M, fun a M => ctX3_readChoice n0 (recX3 n0 d) hI ih a M, fun a M => ctX3_readTest n0 (recX3 n0 d) hI ih a M, fun a M => ctX3_readBoth n0 (recX3 n0 d) hI ih a M, fun a M => ctX3_readFact n0 (recX3 n0 d) hI ih a M, fun a M => ctX3_readComparison n0 (recX3 n0 d) hI ih a M⟩
/-! X3_readSays -/
def fX3_readSays (n0 : Nat) (q1 : Nat) (M : Mem) : Option (Int32 × Mem) :=
  bnd (sR M 257 q1) fun M2 =>
  bnd (sI M2 258 (0 : Int32)) fun M7 =>
  (recX3 n0 100 0 (0 : Int32) (0 : Int32) M7).bind fun z12 =>
  if z12.1 = 0 ∨ z12.1 = 1 then some (z12.1, z12.2) else none
theorem tfX3_readSays (n0 : Nat) (q1 : Nat) (hq1 : isK LX q1 0) (hO : OKc p (rmL 106) s m args meth c LX D cy ad cX3_readSays RX3 2 106 (some .boolean)) (M : Mem) : BL p l e (rmL 106) s m args below meth c LX D cy ad 2 (QI LX D cy ad) 0 [(0, .ref (ad 2)), (1, .ref (ad q1))] [] M (fX3_readSays n0 q1 M) := by
  unfold fX3_readSays
  refine b_aload_n hO dX3_readSays_0 0 rfl rfl ?_
  refine b_aload_n hO dX3_readSays_1 1 rfl rfl ?_
  refine b_putR hO flX3_19 kLX_2 rfl (id := 257) rfl hq1 rfl rfl dX3_readSays_2 ?_
  refine b_bnd (fun M2 => ?_)
  refine b_aload_n hO dX3_readSays_5 0 rfl rfl ?_
  refine b_iconst hO dX3_readSays_6 ic_i_0 ?_
  refine b_putZc hO flX3_9 kLX_2 rfl rfl rfl (id := 258) rfl (Or.inl rfl) dX3_readSays_7 ?_
  refine b_bnd (fun M7 => ?_)
  refine b_aload_n hO dX3_readSays_10 0 rfl rfl ?_
  refine b_iconst hO dX3_readSays_11 ic_i_0 ?_
  refine b_callVI hO mdX3_readSum mvX3_readSum w828 (ci := 3) rfl rfl (by decide) kLX_2 (As := [.int _]) (st := []) ((recX3_ok n0 hO.2.2.2.2.2.2.1 100).1 _ _) (Nat.le_of_ble_eq_true rfl) rfl rfl (Nat.le_of_ble_eq_true rfl) dX3_readSays_12 (fun z12 => ?_)
  exact b_zret hO dX3_readSays_15
theorem ctX3_readSays (n0 : Nat) (q1 : Nat) (hq1 : isK LX q1 0) (hI : Inj LX ad) (M : Mem) : CT l LX D cy ad yX3_readSays cX3_readSays 2 (some .boolean) 106 (QI LX D cy ad) [.ref (ad 2), .ref (ad q1)] M (fX3_readSays n0 q1 M) :=
  CT.mk LXok hI (by decide) (Nat.le_of_ble_eq_true rfl) (fun hO => tfX3_readSays n0 q1 hq1 hO M)
/-! X3_readGone -/
def fX3_readGone (n0 : Nat) (q1 : Nat) (M : Mem) : Option (Int32 × Mem) :=
  bnd (sR M 257 q1) fun M2 =>
  bnd (sI M2 258 (1 : Int32)) fun M7 =>
  (recX3 n0 100 5 (0 : Int32) (0 : Int32) M7).bind fun z12 =>
  if z12.1 = 0 ∨ z12.1 = 1 then some (z12.1, z12.2) else none
theorem tfX3_readGone (n0 : Nat) (q1 : Nat) (hq1 : isK LX q1 0) (hO : OKc p (rmL 106) s m args meth c LX D cy ad cX3_readGone RX3 2 106 (some .boolean)) (M : Mem) : BL p l e (rmL 106) s m args below meth c LX D cy ad 2 (QI LX D cy ad) 0 [(0, .ref (ad 2)), (1, .ref (ad q1))] [] M (fX3_readGone n0 q1 M) := by
  unfold fX3_readGone
  refine b_aload_n hO dX3_readGone_0 0 rfl rfl ?_
  refine b_aload_n hO dX3_readGone_1 1 rfl rfl ?_
  refine b_putR hO flX3_19 kLX_2 rfl (id := 257) rfl hq1 rfl rfl dX3_readGone_2 ?_
  refine b_bnd (fun M2 => ?_)
  refine b_aload_n hO dX3_readGone_5 0 rfl rfl ?_
  refine b_iconst hO dX3_readGone_6 ic_i_1 ?_
  refine b_putZc hO flX3_9 kLX_2 rfl rfl rfl (id := 258) rfl (Or.inr rfl) dX3_readGone_7 ?_
  refine b_bnd (fun M7 => ?_)
  refine b_aload_n hO dX3_readGone_10 0 rfl rfl ?_
  refine b_iconst hO dX3_readGone_11 ic_i_0 ?_
  refine b_callVI hO mdX3_readTest mvX3_readTest w868 (ci := 3) rfl rfl (by decide) kLX_2 (As := [.int _]) (st := []) ((recX3_ok n0 hO.2.2.2.2.2.2.1 100).2.2.2.2.2.1 _ _) (Nat.le_of_ble_eq_true rfl) rfl rfl (Nat.le_of_ble_eq_true rfl) dX3_readGone_12 (fun z12 => ?_)
  exact b_zret hO dX3_readGone_15
theorem ctX3_readGone (n0 : Nat) (q1 : Nat) (hq1 : isK LX q1 0) (hI : Inj LX ad) (M : Mem) : CT l LX D cy ad yX3_readGone cX3_readGone 2 (some .boolean) 106 (QI LX D cy ad) [.ref (ad 2), .ref (ad q1)] M (fX3_readGone n0 q1 M) :=
  CT.mk LXok hI (by decide) (Nat.le_of_ble_eq_true rfl) (fun hO => tfX3_readGone n0 q1 hq1 hO M)
end
end
section
section
variable {p : Program} {l : Launch} {e : Env} {s : State} {m : MethodId} {args : Array Value} {below : List Frame} {meth : Method} {c : Code} {D : va_G} {cy : Nat → ClassId} {ad : Nat → Nat} {dd : Nat}

/-! X5_read -/
def fX5_read_74 (n0 : Nat) (q2 : Nat) (k33 : Int32 → Int32 → Mem → Option (Int32 × Mem)) (x3 : Int32) (x4 : Int32) (u0 : Int32) (M : Mem) : Option (Int32 × Mem) :=
  if u0 = 0 then
    some ((0 : Int32), M)
  else
    (fX7_at n0 (((3 : Int32) * x4) + (2 : Int32)) M).bind fun z88 =>
    if z88.1 ≤ (23 : Int32) then
      k33 x3 (x4 + (1 : Int32)) z88.2
    else
      some ((0 : Int32), z88.2)
def fX5_read_73 (n0 : Nat) (q2 : Nat) (k33 : Int32 → Int32 → Mem → Option (Int32 × Mem)) (x3 : Int32) (x4 : Int32) (M : Mem) : Option (Int32 × Mem) :=
  fX5_read_74 n0 q2 k33 x3 x4 (0 : Int32) M
def bX5_read_107 (n0 : Nat) (q2 : Nat) (k107 : Int32 → Int32 → Mem → Option (Int32 × Mem)) (x3 : Int32) (x4 : Int32) (M : Mem) : Option (Int32 × Mem) :=
  if x3 ≤ x4 then
    bnd (sI M 2688 x3) fun M170 =>
    some ((1 : Int32), M170)
  else
    (fX7_at n0 ((3 : Int32) * x4) M).bind fun z124 =>
    if oob x4 16 then none else
    bnd (sA z124.2 22 (Int32.toNatClampNeg x4) z124.1) fun M127 =>
    (fX7_at n0 (((3 : Int32) * x4) + (1 : Int32)) M127).bind fun z141 =>
    if oob x4 16 then none else
    bnd (sA z141.2 23 (Int32.toNatClampNeg x4) z141.1) fun M144 =>
    (fX7_at n0 (((3 : Int32) * x4) + (2 : Int32)) M144).bind fun z158 =>
    if oob x4 16 then none else
    bnd (sA z158.2 24 (Int32.toNatClampNeg x4) z158.1) fun M161 =>
    k107 x3 (x4 + (1 : Int32)) M161
def fX5_read_107 (n0 : Nat) (q2 : Nat) : Int32 → Int32 → Mem → Option (Int32 × Mem) := loopN (bX5_read_107 n0 q2) (fun _ _ _ => none) n0
def bX5_read_33 (n0 : Nat) (q2 : Nat) (k33 : Int32 → Int32 → Mem → Option (Int32 × Mem)) (x3 : Int32) (x4 : Int32) (M : Mem) : Option (Int32 × Mem) :=
  if x3 ≤ x4 then
    fX5_read_107 n0 q2 x3 (0 : Int32) M
  else
    (fX7_at n0 ((3 : Int32) * x4) M).bind fun z44 =>
    if (40 : Int32) < z44.1 then
      fX5_read_73 n0 q2 k33 x3 x4 z44.2
    else
      (fX7_at n0 (((3 : Int32) * x4) + (1 : Int32)) z44.2).bind fun z60 =>
      (fX9_isCorner n0 q2 z60.1 z60.2).bind fun z63 =>
      if z63.1 = 0 then
        fX5_read_73 n0 q2 k33 x3 x4 z63.2
      else
        fX5_read_74 n0 q2 k33 x3 x4 (1 : Int32) z63.2
def fX5_read_33 (n0 : Nat) (q2 : Nat) : Int32 → Int32 → Mem → Option (Int32 × Mem) := loopN (bX5_read_33 n0 q2) (fun _ _ _ => none) n0
def fX5_read (n0 : Nat) (q2 : Nat) (M : Mem) : Option (Int32 × Mem) :=
  if (3 : Int32) = 0 then none else
  bnd ((gI M 641) / (3 : Int32)) fun x3_6 =>
  if x3_6 < (1 : Int32) then
    some ((0 : Int32), M)
  else
    if (16 : Int32) < x3_6 then
      some ((0 : Int32), M)
    else
      if (gI M 641) = ((3 : Int32) * x3_6) then
        fX5_read_33 n0 q2 x3_6 (0 : Int32) M
      else
        some ((0 : Int32), M)
theorem tfX5_read_74 (n0 : Nat) (q2 : Nat) (hq2 : isK LX q2 9) (hO : OKc p (rmL 2) s m args meth c LX D cy ad cX5_read RX5 6 2 (some .boolean)) (k33 : Int32 → Int32 → Mem → Option (Int32 × Mem)) (hk33 : ∀ (x3 : Int32) (x4 : Int32) (M : Mem), BL p l e (rmL 2) s m args below meth c LX D cy ad 6 (QI LX D cy ad) 33 [(0, .ref (ad 21)), (1, .ref (ad 5)), (2, .ref (ad q2)), (3, .int x3), (4, .int x4)] [] M (k33 x3 x4 M)) (x3 : Int32) (x4 : Int32) (u0 : Int32) (M : Mem) : BL p l e (rmL 2) s m args below meth c LX D cy ad 6 (QI LX D cy ad) 74 [(0, .ref (ad 21)), (1, .ref (ad 5)), (2, .ref (ad q2)), (3, .int x3), (4, .int x4)] [.int u0] M (fX5_read_74 n0 q2 k33 x3 x4 u0 M) := by
  unfold fX5_read_74
  refine b_istore hO dX5_read_74 (by decide) (lv' := [(5, .int _), (0, .ref _), (1, .ref _), (2, .ref _), (3, .int _), (4, .int _)]) rfl ?_
  refine b_iload hO dX5_read_76 0 rfl ?_
  refine b_if_eq hO dX5_read_78 (tgt := 96) (by decide) ?_ ?_
  · refine b_iconst hO dX5_read_96 ic_i_0 ?_
    exact b_zretc hO (Or.inl rfl) dX5_read_97
  · refine b_aload_n hO dX5_read_81 2 rfl rfl ?_
    refine b_iconst hO dX5_read_82 ic_i_3 ?_
    refine b_iload hO dX5_read_83 5 rfl ?_
    refine b_imul hO dX5_read_85 ?_
    refine b_iconst hO dX5_read_86 ic_i_2 ?_
    refine b_iadd hO dX5_read_87 ?_
    refine b_callVI hO mdX7_at mvX7_at w1092 (ci := 7) rfl rfl (by decide) kLX_5 (As := [.int _]) (st := []) (ctX7_at n0 hO.2.2.2.2.2.2.1 _ _) (Nat.le_of_ble_eq_true rfl) rfl rfl (Nat.le_of_ble_eq_true rfl) dX5_read_88 (fun z88 => ?_)
    refine b_bipush hO dX5_read_91 ic_b_23 ?_
    refine b_icmp_le hO dX5_read_93 (tgt := 98) (by decide) ?_ ?_
    · refine b_iinc hO dX5_read_98 5 rfl ic_i_1 (by decide) (lv' := [(4, .int _), (5, .int _), (0, .ref _), (1, .ref _), (2, .ref _), (3, .int _)]) rfl ?_
      refine b_goto hO dX5_read_101 (tgt := 33) (by decide) ?_
      refine b_sub [2, 3, 4, 5, 0] rfl ?_
      exact hk33 _ _ _
    · refine b_iconst hO dX5_read_96 ic_i_0 ?_
      exact b_zretc hO (Or.inl rfl) dX5_read_97
theorem tfX5_read_73 (n0 : Nat) (q2 : Nat) (hq2 : isK LX q2 9) (hO : OKc p (rmL 2) s m args meth c LX D cy ad cX5_read RX5 6 2 (some .boolean)) (k33 : Int32 → Int32 → Mem → Option (Int32 × Mem)) (hk33 : ∀ (x3 : Int32) (x4 : Int32) (M : Mem), BL p l e (rmL 2) s m args below meth c LX D cy ad 6 (QI LX D cy ad) 33 [(0, .ref (ad 21)), (1, .ref (ad 5)), (2, .ref (ad q2)), (3, .int x3), (4, .int x4)] [] M (k33 x3 x4 M)) (x3 : Int32) (x4 : Int32) (M : Mem) : BL p l e (rmL 2) s m args below meth c LX D cy ad 6 (QI LX D cy ad) 73 [(0, .ref (ad 21)), (1, .ref (ad 5)), (2, .ref (ad q2)), (3, .int x3), (4, .int x4)] [] M (fX5_read_73 n0 q2 k33 x3 x4 M) := by
  unfold fX5_read_73
  refine b_iconst hO dX5_read_73 ic_i_0 ?_
  exact tfX5_read_74 n0 q2 hq2 hO k33 hk33 _ _ _ _
theorem tbX5_read_107 (n0 : Nat) (q2 : Nat) (hq2 : isK LX q2 9) (hO : OKc p (rmL 2) s m args meth c LX D cy ad cX5_read RX5 6 2 (some .boolean)) (k107 : Int32 → Int32 → Mem → Option (Int32 × Mem)) (hk107 : ∀ (x3 : Int32) (x4 : Int32) (M : Mem), BL p l e (rmL 2) s m args below meth c LX D cy ad 6 (QI LX D cy ad) 107 [(0, .ref (ad 21)), (1, .ref (ad 5)), (3, .int x3), (4, .int x4)] [] M (k107 x3 x4 M)) (x3 : Int32) (x4 : Int32) (M : Mem) : BL p l e (rmL 2) s m args below meth c LX D cy ad 6 (QI LX D cy ad) 107 [(0, .ref (ad 21)), (1, .ref (ad 5)), (3, .int x3), (4, .int x4)] [] M (bX5_read_107 n0 q2 k107 x3 x4 M) := by
  unfold bX5_read_107
  refine b_iload hO dX5_read_107 3 rfl ?_
  refine b_iload_n hO dX5_read_109 2 rfl rfl ?_
  refine b_icmp_ge hO dX5_read_110 (tgt := 168) (by decide) ?_ ?_
  · refine b_aload_n hO dX5_read_168 0 rfl rfl ?_
    refine b_iload_n hO dX5_read_169 2 rfl rfl ?_
    refine b_putI hO flX5_9 kLX_21 rfl rfl rfl (id := 2688) rfl dX5_read_170 ?_
    refine b_bnd (fun M170 => ?_)
    refine b_iconst hO dX5_read_173 ic_i_1 ?_
    exact b_zretc hO (Or.inr rfl) dX5_read_174
  · refine b_aload_n hO dX5_read_113 0 rfl rfl ?_
    refine b_get hO flX5_15 kLX_21 (v := .ref (ad 22)) rfl dX5_read_114 ?_
    refine b_iload hO dX5_read_117 3 rfl ?_
    refine b_aload_n hO dX5_read_119 1 rfl rfl ?_
    refine b_iconst hO dX5_read_120 ic_i_3 ?_
    refine b_iload hO dX5_read_121 3 rfl ?_
    refine b_imul hO dX5_read_123 ?_
    refine b_callVI hO mdX7_at mvX7_at w1092 (ci := 7) rfl rfl (by decide) kLX_5 (As := [.int _]) (st := [.int _, .ref _]) (ctX7_at n0 hO.2.2.2.2.2.2.1 _ _) (Nat.le_of_ble_eq_true rfl) rfl rfl (Nat.le_of_ble_eq_true rfl) dX5_read_124 (fun z124 => ?_)
    refine b_iast hO kLX_22 (n := 16) rfl dX5_read_127 ?_
    refine b_bnd (fun M127 => ?_)
    refine b_aload_n hO dX5_read_128 0 rfl rfl ?_
    refine b_get hO flX5_19 kLX_21 (v := .ref (ad 23)) rfl dX5_read_129 ?_
    refine b_iload hO dX5_read_132 3 rfl ?_
    refine b_aload_n hO dX5_read_134 1 rfl rfl ?_
    refine b_iconst hO dX5_read_135 ic_i_3 ?_
    refine b_iload hO dX5_read_136 3 rfl ?_
    refine b_imul hO dX5_read_138 ?_
    refine b_iconst hO dX5_read_139 ic_i_1 ?_
    refine b_iadd hO dX5_read_140 ?_
    refine b_callVI hO mdX7_at mvX7_at w1092 (ci := 7) rfl rfl (by decide) kLX_5 (As := [.int _]) (st := [.int _, .ref _]) (ctX7_at n0 hO.2.2.2.2.2.2.1 _ _) (Nat.le_of_ble_eq_true rfl) rfl rfl (Nat.le_of_ble_eq_true rfl) dX5_read_141 (fun z141 => ?_)
    refine b_iast hO kLX_23 (n := 16) rfl dX5_read_144 ?_
    refine b_bnd (fun M144 => ?_)
    refine b_aload_n hO dX5_read_145 0 rfl rfl ?_
    refine b_get hO flX5_22 kLX_21 (v := .ref (ad 24)) rfl dX5_read_146 ?_
    refine b_iload hO dX5_read_149 3 rfl ?_
    refine b_aload_n hO dX5_read_151 1 rfl rfl ?_
    refine b_iconst hO dX5_read_152 ic_i_3 ?_
    refine b_iload hO dX5_read_153 3 rfl ?_
    refine b_imul hO dX5_read_155 ?_
    refine b_iconst hO dX5_read_156 ic_i_2 ?_
    refine b_iadd hO dX5_read_157 ?_
    refine b_callVI hO mdX7_at mvX7_at w1092 (ci := 7) rfl rfl (by decide) kLX_5 (As := [.int _]) (st := [.int _, .ref _]) (ctX7_at n0 hO.2.2.2.2.2.2.1 _ _) (Nat.le_of_ble_eq_true rfl) rfl rfl (Nat.le_of_ble_eq_true rfl) dX5_read_158 (fun z158 => ?_)
    refine b_iast hO kLX_24 (n := 16) rfl dX5_read_161 ?_
    refine b_bnd (fun M161 => ?_)
    refine b_iinc hO dX5_read_162 3 rfl ic_i_1 (by decide) (lv' := [(4, .int _), (0, .ref _), (1, .ref _), (3, .int _)]) rfl ?_
    refine b_goto hO dX5_read_165 (tgt := 107) (by decide) ?_
    refine b_sub [1, 2, 3, 0] rfl ?_
    exact hk107 _ _ _
theorem lX5_read_107 (n0 : Nat) (q2 : Nat) (hq2 : isK LX q2 9) (hO : OKc p (rmL 2) s m args meth c LX D cy ad cX5_read RX5 6 2 (some .boolean)) : ∀ (w : Nat) (x3 : Int32) (x4 : Int32) (M : Mem), BL p l e (rmL 2) s m args below meth c LX D cy ad 6 (QI LX D cy ad) 107 [(0, .ref (ad 21)), (1, .ref (ad 5)), (3, .int x3), (4, .int x4)] [] M (loopN (bX5_read_107 n0 q2) (fun _ _ _ => none) w x3 x4 M) := by
  intro w
  induction w with
  | zero =>
    intros
    exact b_none
  | succ w ih =>
    intro x3 x4 M
    exact tbX5_read_107 n0 q2 hq2 hO _ ih x3 x4 M
theorem tfX5_read_107 (n0 : Nat) (q2 : Nat) (hq2 : isK LX q2 9) (hO : OKc p (rmL 2) s m args meth c LX D cy ad cX5_read RX5 6 2 (some .boolean)) (x3 : Int32) (x4 : Int32) (M : Mem) : BL p l e (rmL 2) s m args below meth c LX D cy ad 6 (QI LX D cy ad) 107 [(0, .ref (ad 21)), (1, .ref (ad 5)), (3, .int x3), (4, .int x4)] [] M (fX5_read_107 n0 q2 x3 x4 M) := lX5_read_107 n0 q2 hq2 hO n0 x3 x4 M
theorem tbX5_read_33 (n0 : Nat) (q2 : Nat) (hq2 : isK LX q2 9) (hO : OKc p (rmL 2) s m args meth c LX D cy ad cX5_read RX5 6 2 (some .boolean)) (k33 : Int32 → Int32 → Mem → Option (Int32 × Mem)) (hk33 : ∀ (x3 : Int32) (x4 : Int32) (M : Mem), BL p l e (rmL 2) s m args below meth c LX D cy ad 6 (QI LX D cy ad) 33 [(0, .ref (ad 21)), (1, .ref (ad 5)), (2, .ref (ad q2)), (3, .int x3), (4, .int x4)] [] M (k33 x3 x4 M)) (x3 : Int32) (x4 : Int32) (M : Mem) : BL p l e (rmL 2) s m args below meth c LX D cy ad 6 (QI LX D cy ad) 33 [(0, .ref (ad 21)), (1, .ref (ad 5)), (2, .ref (ad q2)), (3, .int x3), (4, .int x4)] [] M (bX5_read_33 n0 q2 k33 x3 x4 M) := by
  unfold bX5_read_33
  refine b_iload hO dX5_read_33 4 rfl ?_
  refine b_iload_n hO dX5_read_35 3 rfl rfl ?_
  refine b_icmp_ge hO dX5_read_36 (tgt := 104) (by decide) ?_ ?_
  · refine b_iconst hO dX5_read_104 ic_i_0 ?_
    refine b_istore hO dX5_read_105 (by decide) (lv' := [(4, .int _), (0, .ref _), (1, .ref _), (2, .ref _), (3, .int _)]) rfl ?_
    refine b_sub [1, 2, 4, 0] rfl ?_
    exact tfX5_read_107 n0 q2 hq2 hO _ _ _
  · refine b_aload_n hO dX5_read_39 1 rfl rfl ?_
    refine b_iconst hO dX5_read_40 ic_i_3 ?_
    refine b_iload hO dX5_read_41 4 rfl ?_
    refine b_imul hO dX5_read_43 ?_
    refine b_callVI hO mdX7_at mvX7_at w1092 (ci := 7) rfl rfl (by decide) kLX_5 (As := [.int _]) (st := []) (ctX7_at n0 hO.2.2.2.2.2.2.1 _ _) (Nat.le_of_ble_eq_true rfl) rfl rfl (Nat.le_of_ble_eq_true rfl) dX5_read_44 (fun z44 => ?_)
    refine b_bipush hO dX5_read_47 ic_b_40 ?_
    refine b_icmp_gt hO dX5_read_49 (tgt := 73) (by decide) ?_ ?_
    · exact tfX5_read_73 n0 q2 hq2 hO k33 hk33 _ _ _
    · refine b_aload_n hO dX5_read_52 2 rfl rfl ?_
      refine b_aload_n hO dX5_read_53 1 rfl rfl ?_
      refine b_iconst hO dX5_read_54 ic_i_3 ?_
      refine b_iload hO dX5_read_55 4 rfl ?_
      refine b_imul hO dX5_read_57 ?_
      refine b_iconst hO dX5_read_58 ic_i_1 ?_
      refine b_iadd hO dX5_read_59 ?_
      refine b_callVI hO mdX7_at mvX7_at w1092 (ci := 7) rfl rfl (by decide) kLX_5 (As := [.int _]) (st := [.ref _]) (ctX7_at n0 hO.2.2.2.2.2.2.1 _ _) (Nat.le_of_ble_eq_true rfl) rfl rfl (Nat.le_of_ble_eq_true rfl) dX5_read_60 (fun z60 => ?_)
      refine b_callVI hO mdX9_isCorner mvX9_isCorner w1093 (ci := 9) rfl rfl (by decide) hq2 (As := [.int _]) (st := []) (ctX9_isCorner n0 _ hq2 hO.2.2.2.2.2.2.1 _ _) (Nat.le_of_ble_eq_true rfl) rfl rfl (Nat.le_of_ble_eq_true rfl) dX5_read_63 (fun z63 => ?_)
      refine b_if_eq hO dX5_read_66 (tgt := 73) (by decide) ?_ ?_
      · exact tfX5_read_73 n0 q2 hq2 hO k33 hk33 _ _ _
      · refine b_iconst hO dX5_read_69 ic_i_1 ?_
        refine b_goto hO dX5_read_70 (tgt := 74) (by decide) ?_
        exact tfX5_read_74 n0 q2 hq2 hO k33 hk33 _ _ _ _
theorem lX5_read_33 (n0 : Nat) (q2 : Nat) (hq2 : isK LX q2 9) (hO : OKc p (rmL 2) s m args meth c LX D cy ad cX5_read RX5 6 2 (some .boolean)) : ∀ (w : Nat) (x3 : Int32) (x4 : Int32) (M : Mem), BL p l e (rmL 2) s m args below meth c LX D cy ad 6 (QI LX D cy ad) 33 [(0, .ref (ad 21)), (1, .ref (ad 5)), (2, .ref (ad q2)), (3, .int x3), (4, .int x4)] [] M (loopN (bX5_read_33 n0 q2) (fun _ _ _ => none) w x3 x4 M) := by
  intro w
  induction w with
  | zero =>
    intros
    exact b_none
  | succ w ih =>
    intro x3 x4 M
    exact tbX5_read_33 n0 q2 hq2 hO _ ih x3 x4 M
theorem tfX5_read_33 (n0 : Nat) (q2 : Nat) (hq2 : isK LX q2 9) (hO : OKc p (rmL 2) s m args meth c LX D cy ad cX5_read RX5 6 2 (some .boolean)) (x3 : Int32) (x4 : Int32) (M : Mem) : BL p l e (rmL 2) s m args below meth c LX D cy ad 6 (QI LX D cy ad) 33 [(0, .ref (ad 21)), (1, .ref (ad 5)), (2, .ref (ad q2)), (3, .int x3), (4, .int x4)] [] M (fX5_read_33 n0 q2 x3 x4 M) := lX5_read_33 n0 q2 hq2 hO n0 x3 x4 M
theorem tfX5_read (n0 : Nat) (q2 : Nat) (hq2 : isK LX q2 9) (hO : OKc p (rmL 2) s m args meth c LX D cy ad cX5_read RX5 6 2 (some .boolean)) (M : Mem) : BL p l e (rmL 2) s m args below meth c LX D cy ad 6 (QI LX D cy ad) 0 [(0, .ref (ad 21)), (1, .ref (ad 5)), (2, .ref (ad q2))] [] M (fX5_read n0 q2 M) := by
  unfold fX5_read
  refine b_aload_n hO dX5_read_0 1 rfl rfl ?_
  refine b_get hO flX5_30 kLX_5 (v := .int (gI _ 641)) rfl dX5_read_1 ?_
  refine b_iconst hO dX5_read_4 ic_i_3 ?_
  refine b_idiv hO dX5_read_5 ?_
  refine b_topI (fun x3_6 => ?_)
  refine b_istore_n hO dX5_read_6 rfl (by decide) (lv' := [(3, .int _), (0, .ref _), (1, .ref _), (2, .ref _)]) rfl ?_
  refine b_iload_n hO dX5_read_7 0 rfl rfl ?_
  refine b_iconst hO dX5_read_8 ic_i_1 ?_
  refine b_icmp_lt hO dX5_read_9 (tgt := 28) (by decide) ?_ ?_
  · refine b_iconst hO dX5_read_28 ic_i_0 ?_
    exact b_zretc hO (Or.inl rfl) dX5_read_29
  · refine b_iload_n hO dX5_read_12 0 rfl rfl ?_
    refine b_bipush hO dX5_read_13 ic_b_16 ?_
    refine b_icmp_gt hO dX5_read_15 (tgt := 28) (by decide) ?_ ?_
    · refine b_iconst hO dX5_read_28 ic_i_0 ?_
      exact b_zretc hO (Or.inl rfl) dX5_read_29
    · refine b_aload_n hO dX5_read_18 2 rfl rfl ?_
      refine b_get hO flX5_30 kLX_5 (v := .int (gI _ 641)) rfl dX5_read_19 ?_
      refine b_iconst hO dX5_read_22 ic_i_3 ?_
      refine b_iload_n hO dX5_read_23 0 rfl rfl ?_
      refine b_imul hO dX5_read_24 ?_
      refine b_icmp_eq hO dX5_read_25 (tgt := 30) (by decide) ?_ ?_
      · refine b_iconst hO dX5_read_30 ic_i_0 ?_
        refine b_istore hO dX5_read_31 (by decide) (lv' := [(4, .int _), (3, .int _), (0, .ref _), (1, .ref _), (2, .ref _)]) rfl ?_
        refine b_sub [2, 3, 4, 1, 0] rfl ?_
        exact tfX5_read_33 n0 q2 hq2 hO _ _ _
      · refine b_iconst hO dX5_read_28 ic_i_0 ?_
        exact b_zretc hO (Or.inl rfl) dX5_read_29
theorem ctX5_read (n0 : Nat) (q2 : Nat) (hq2 : isK LX q2 9) (hI : Inj LX ad) (M : Mem) : CT l LX D cy ad yX5_read cX5_read 6 (some .boolean) 2 (QI LX D cy ad) [.ref (ad 21), .ref (ad 5), .ref (ad q2)] M (fX5_read n0 q2 M) :=
  CT.mk LXok hI (by decide) (Nat.le_of_ble_eq_true rfl) (fun hO => tfX5_read n0 q2 hq2 hO M)
/-! X5_isAbout -/
def bX5_isAbout_2 (n0 : Nat) (k2 : Int32 → Int32 → Mem → Option (Int32 × Mem)) (x1 : Int32) (x2 : Int32) (M : Mem) : Option (Int32 × Mem) :=
  if (gI M 2688) ≤ x2 then
    some ((0 : Int32), M)
  else
    if oob x2 16 then none else
    if (gA M 23 (Int32.toNatClampNeg x2)) = x1 then
      some ((1 : Int32), M)
    else
      k2 x1 (x2 + (1 : Int32)) M
def fX5_isAbout_2 (n0 : Nat) : Int32 → Int32 → Mem → Option (Int32 × Mem) := loopN (bX5_isAbout_2 n0) (fun _ _ _ => none) n0
def fX5_isAbout (n0 : Nat) (x1 : Int32) (M : Mem) : Option (Int32 × Mem) :=
  fX5_isAbout_2 n0 x1 (0 : Int32) M
theorem tbX5_isAbout_2 (n0 : Nat) (hO : OKc p (rmL 1) s m args meth c LX D cy ad cX5_isAbout RX5 3 1 (some .boolean)) (k2 : Int32 → Int32 → Mem → Option (Int32 × Mem)) (hk2 : ∀ (x1 : Int32) (x2 : Int32) (M : Mem), BL p l e (rmL 1) s m args below meth c LX D cy ad 3 (QI LX D cy ad) 2 [(0, .ref (ad 21)), (1, .int x1), (2, .int x2)] [] M (k2 x1 x2 M)) (x1 : Int32) (x2 : Int32) (M : Mem) : BL p l e (rmL 1) s m args below meth c LX D cy ad 3 (QI LX D cy ad) 2 [(0, .ref (ad 21)), (1, .int x1), (2, .int x2)] [] M (bX5_isAbout_2 n0 k2 x1 x2 M) := by
  unfold bX5_isAbout_2
  refine b_iload_n hO dX5_isAbout_2 2 rfl rfl ?_
  refine b_aload_n hO dX5_isAbout_3 0 rfl rfl ?_
  refine b_get hO flX5_9 kLX_21 (v := .int (gI _ 2688)) rfl dX5_isAbout_4 ?_
  refine b_icmp_ge hO dX5_isAbout_7 (tgt := 28) (by decide) ?_ ?_
  · refine b_iconst hO dX5_isAbout_28 ic_i_0 ?_
    exact b_zretc hO (Or.inl rfl) dX5_isAbout_29
  · refine b_aload_n hO dX5_isAbout_10 0 rfl rfl ?_
    refine b_get hO flX5_19 kLX_21 (v := .ref (ad 23)) rfl dX5_isAbout_11 ?_
    refine b_iload_n hO dX5_isAbout_14 2 rfl rfl ?_
    refine b_iald hO kLX_23 (n := 16) rfl dX5_isAbout_15 ?_
    refine b_iload_n hO dX5_isAbout_16 1 rfl rfl ?_
    refine b_icmp_ne hO dX5_isAbout_17 (tgt := 22) (by decide) ?_ ?_
    · refine b_iinc hO dX5_isAbout_22 2 rfl ic_i_1 (by decide) (lv' := [(2, .int _), (0, .ref _), (1, .int _)]) rfl ?_
      refine b_goto hO dX5_isAbout_25 (tgt := 2) (by decide) ?_
      refine b_sub [1, 2, 0] rfl ?_
      exact hk2 _ _ _
    · refine b_iconst hO dX5_isAbout_20 ic_i_1 ?_
      exact b_zretc hO (Or.inr rfl) dX5_isAbout_21
theorem lX5_isAbout_2 (n0 : Nat) (hO : OKc p (rmL 1) s m args meth c LX D cy ad cX5_isAbout RX5 3 1 (some .boolean)) : ∀ (w : Nat) (x1 : Int32) (x2 : Int32) (M : Mem), BL p l e (rmL 1) s m args below meth c LX D cy ad 3 (QI LX D cy ad) 2 [(0, .ref (ad 21)), (1, .int x1), (2, .int x2)] [] M (loopN (bX5_isAbout_2 n0) (fun _ _ _ => none) w x1 x2 M) := by
  intro w
  induction w with
  | zero =>
    intros
    exact b_none
  | succ w ih =>
    intro x1 x2 M
    exact tbX5_isAbout_2 n0 hO _ ih x1 x2 M
theorem tfX5_isAbout_2 (n0 : Nat) (hO : OKc p (rmL 1) s m args meth c LX D cy ad cX5_isAbout RX5 3 1 (some .boolean)) (x1 : Int32) (x2 : Int32) (M : Mem) : BL p l e (rmL 1) s m args below meth c LX D cy ad 3 (QI LX D cy ad) 2 [(0, .ref (ad 21)), (1, .int x1), (2, .int x2)] [] M (fX5_isAbout_2 n0 x1 x2 M) := lX5_isAbout_2 n0 hO n0 x1 x2 M
theorem tfX5_isAbout (n0 : Nat) (hO : OKc p (rmL 1) s m args meth c LX D cy ad cX5_isAbout RX5 3 1 (some .boolean)) (x1 : Int32) (M : Mem) : BL p l e (rmL 1) s m args below meth c LX D cy ad 3 (QI LX D cy ad) 0 [(0, .ref (ad 21)), (1, .int x1)] [] M (fX5_isAbout n0 x1 M) := by
  unfold fX5_isAbout
  refine b_iconst hO dX5_isAbout_0 ic_i_0 ?_
  refine b_istore_n hO dX5_isAbout_1 rfl (by decide) (lv' := [(2, .int _), (0, .ref _), (1, .int _)]) rfl ?_
  refine b_sub [1, 2, 0] rfl ?_
  exact tfX5_isAbout_2 n0 hO _ _ _
theorem ctX5_isAbout (n0 : Nat) (hI : Inj LX ad) (x1 : Int32) (M : Mem) : CT l LX D cy ad yX5_isAbout cX5_isAbout 3 (some .boolean) 1 (QI LX D cy ad) [.ref (ad 21), .int x1] M (fX5_isAbout n0 x1 M) :=
  CT.mk LXok hI (by decide) (Nat.le_of_ble_eq_true rfl) (fun hO => tfX5_isAbout n0 hO x1 M)
/-! X5_isSo -/
def fX5_isSo_79 (n0 : Nat) (q2 : Nat) (k3 : Int32 → Int32 → Int32 → Mem → Option (Int32 × Mem)) (x1 : Int32) (x3 : Int32) (x4 : Int32) (M : Mem) : Option (Int32 × Mem) :=
  k3 x1 x3 (x4 + (1 : Int32)) M
def fX5_isSo_51 (n0 : Nat) (q2 : Nat) (k3 : Int32 → Int32 → Int32 → Mem → Option (Int32 × Mem)) (x1 : Int32) (x3 : Int32) (x4 : Int32) (u0 : Int32) (M : Mem) : Option (Int32 × Mem) :=
  if u0 = 0 then
    some ((0 : Int32), M)
  else
    if oob x4 16 then none else
    if oob (gA M 22 (Int32.toNatClampNeg x4)) (LX.ln q2) then none else
    if oob x4 16 then none else
    if (gA M q2 (Int32.toNatClampNeg (gA M 22 (Int32.toNatClampNeg x4)))) = (gA M 24 (Int32.toNatClampNeg x4)) then
      fX5_isSo_79 n0 q2 k3 x1 x3 x4 M
    else
      some ((0 : Int32), M)
def fX5_isSo_50 (n0 : Nat) (q2 : Nat) (k3 : Int32 → Int32 → Int32 → Mem → Option (Int32 × Mem)) (x1 : Int32) (x3 : Int32) (x4 : Int32) (M : Mem) : Option (Int32 × Mem) :=
  fX5_isSo_51 n0 q2 k3 x1 x3 x4 (0 : Int32) M
def bX5_isSo_3 (n0 : Nat) (q2 : Nat) (k3 : Int32 → Int32 → Int32 → Mem → Option (Int32 × Mem)) (x1 : Int32) (x3 : Int32) (x4 : Int32) (M : Mem) : Option (Int32 × Mem) :=
  if (gI M 2688) ≤ x4 then
    some ((1 : Int32), M)
  else
    if oob x4 16 then none else
    if (gA M 23 (Int32.toNatClampNeg x4)) = x1 then
      if oob x4 16 then none else
      if x3 < (gA M 22 (Int32.toNatClampNeg x4)) then
        fX5_isSo_50 n0 q2 k3 x1 x3 x4 M
      else
        if oob x4 16 then none else
        if (Int32.ofNat (LX.ln q2)) ≤ (gA M 22 (Int32.toNatClampNeg x4)) then
          fX5_isSo_50 n0 q2 k3 x1 x3 x4 M
        else
          fX5_isSo_51 n0 q2 k3 x1 x3 x4 (1 : Int32) M
    else
      fX5_isSo_79 n0 q2 k3 x1 x3 x4 M
def fX5_isSo_3 (n0 : Nat) (q2 : Nat) : Int32 → Int32 → Int32 → Mem → Option (Int32 × Mem) := loopN (bX5_isSo_3 n0 q2) (fun _ _ _ _ => none) n0
def fX5_isSo (n0 : Nat) (q2 : Nat) (x1 : Int32) (x3 : Int32) (M : Mem) : Option (Int32 × Mem) :=
  fX5_isSo_3 n0 q2 x1 x3 (0 : Int32) M
theorem tfX5_isSo_79 (n0 : Nat) (q2 : Nat) (hq2 : isK LX q2 13) (hO : OKc p (rmL 1) s m args meth c LX D cy ad cX5_isSo RX5 6 1 (some .boolean)) (k3 : Int32 → Int32 → Int32 → Mem → Option (Int32 × Mem)) (hk3 : ∀ (x1 : Int32) (x3 : Int32) (x4 : Int32) (M : Mem), BL p l e (rmL 1) s m args below meth c LX D cy ad 6 (QI LX D cy ad) 3 [(0, .ref (ad 21)), (1, .int x1), (2, .ref (ad q2)), (3, .int x3), (4, .int x4)] [] M (k3 x1 x3 x4 M)) (x1 : Int32) (x3 : Int32) (x4 : Int32) (M : Mem) : BL p l e (rmL 1) s m args below meth c LX D cy ad 6 (QI LX D cy ad) 79 [(0, .ref (ad 21)), (1, .int x1), (2, .ref (ad q2)), (3, .int x3), (4, .int x4)] [] M (fX5_isSo_79 n0 q2 k3 x1 x3 x4 M) := by
  unfold fX5_isSo_79
  refine b_iinc hO dX5_isSo_79 4 rfl ic_i_1 (by decide) (lv' := [(4, .int _), (0, .ref _), (1, .int _), (2, .ref _), (3, .int _)]) rfl ?_
  refine b_goto hO dX5_isSo_82 (tgt := 3) (by decide) ?_
  refine b_sub [1, 2, 3, 4, 0] rfl ?_
  exact hk3 _ _ _ _
theorem tfX5_isSo_51 (n0 : Nat) (q2 : Nat) (hq2 : isK LX q2 13) (hO : OKc p (rmL 1) s m args meth c LX D cy ad cX5_isSo RX5 6 1 (some .boolean)) (k3 : Int32 → Int32 → Int32 → Mem → Option (Int32 × Mem)) (hk3 : ∀ (x1 : Int32) (x3 : Int32) (x4 : Int32) (M : Mem), BL p l e (rmL 1) s m args below meth c LX D cy ad 6 (QI LX D cy ad) 3 [(0, .ref (ad 21)), (1, .int x1), (2, .ref (ad q2)), (3, .int x3), (4, .int x4)] [] M (k3 x1 x3 x4 M)) (x1 : Int32) (x3 : Int32) (x4 : Int32) (u0 : Int32) (M : Mem) : BL p l e (rmL 1) s m args below meth c LX D cy ad 6 (QI LX D cy ad) 51 [(0, .ref (ad 21)), (1, .int x1), (2, .ref (ad q2)), (3, .int x3), (4, .int x4)] [.int u0] M (fX5_isSo_51 n0 q2 k3 x1 x3 x4 u0 M) := by
  unfold fX5_isSo_51
  refine b_istore hO dX5_isSo_51 (by decide) (lv' := [(5, .int _), (0, .ref _), (1, .int _), (2, .ref _), (3, .int _), (4, .int _)]) rfl ?_
  refine b_iload hO dX5_isSo_53 0 rfl ?_
  refine b_if_eq hO dX5_isSo_55 (tgt := 77) (by decide) ?_ ?_
  · refine b_iconst hO dX5_isSo_77 ic_i_0 ?_
    exact b_zretc hO (Or.inl rfl) dX5_isSo_78
  · refine b_aload_n hO dX5_isSo_58 3 rfl rfl ?_
    refine b_aload_n hO dX5_isSo_59 1 rfl rfl ?_
    refine b_get hO flX5_15 kLX_21 (v := .ref (ad 22)) rfl dX5_isSo_60 ?_
    refine b_iload hO dX5_isSo_63 5 rfl ?_
    refine b_iald hO kLX_22 (n := 16) rfl dX5_isSo_65 ?_
    refine b_iald hO hq2 (n := (LX.ln q2)) rfl dX5_isSo_66 ?_
    refine b_aload_n hO dX5_isSo_67 1 rfl rfl ?_
    refine b_get hO flX5_22 kLX_21 (v := .ref (ad 24)) rfl dX5_isSo_68 ?_
    refine b_iload hO dX5_isSo_71 5 rfl ?_
    refine b_iald hO kLX_24 (n := 16) rfl dX5_isSo_73 ?_
    refine b_icmp_eq hO dX5_isSo_74 (tgt := 79) (by decide) ?_ ?_
    · refine b_sub [1, 2, 3, 4, 5] rfl ?_
      exact tfX5_isSo_79 n0 q2 hq2 hO k3 hk3 _ _ _ _
    · refine b_iconst hO dX5_isSo_77 ic_i_0 ?_
      exact b_zretc hO (Or.inl rfl) dX5_isSo_78
theorem tfX5_isSo_50 (n0 : Nat) (q2 : Nat) (hq2 : isK LX q2 13) (hO : OKc p (rmL 1) s m args meth c LX D cy ad cX5_isSo RX5 6 1 (some .boolean)) (k3 : Int32 → Int32 → Int32 → Mem → Option (Int32 × Mem)) (hk3 : ∀ (x1 : Int32) (x3 : Int32) (x4 : Int32) (M : Mem), BL p l e (rmL 1) s m args below meth c LX D cy ad 6 (QI LX D cy ad) 3 [(0, .ref (ad 21)), (1, .int x1), (2, .ref (ad q2)), (3, .int x3), (4, .int x4)] [] M (k3 x1 x3 x4 M)) (x1 : Int32) (x3 : Int32) (x4 : Int32) (M : Mem) : BL p l e (rmL 1) s m args below meth c LX D cy ad 6 (QI LX D cy ad) 50 [(0, .ref (ad 21)), (1, .int x1), (2, .ref (ad q2)), (3, .int x3), (4, .int x4)] [] M (fX5_isSo_50 n0 q2 k3 x1 x3 x4 M) := by
  unfold fX5_isSo_50
  refine b_iconst hO dX5_isSo_50 ic_i_0 ?_
  exact tfX5_isSo_51 n0 q2 hq2 hO k3 hk3 _ _ _ _ _
theorem tbX5_isSo_3 (n0 : Nat) (q2 : Nat) (hq2 : isK LX q2 13) (hO : OKc p (rmL 1) s m args meth c LX D cy ad cX5_isSo RX5 6 1 (some .boolean)) (k3 : Int32 → Int32 → Int32 → Mem → Option (Int32 × Mem)) (hk3 : ∀ (x1 : Int32) (x3 : Int32) (x4 : Int32) (M : Mem), BL p l e (rmL 1) s m args below meth c LX D cy ad 6 (QI LX D cy ad) 3 [(0, .ref (ad 21)), (1, .int x1), (2, .ref (ad q2)), (3, .int x3), (4, .int x4)] [] M (k3 x1 x3 x4 M)) (x1 : Int32) (x3 : Int32) (x4 : Int32) (M : Mem) : BL p l e (rmL 1) s m args below meth c LX D cy ad 6 (QI LX D cy ad) 3 [(0, .ref (ad 21)), (1, .int x1), (2, .ref (ad q2)), (3, .int x3), (4, .int x4)] [] M (bX5_isSo_3 n0 q2 k3 x1 x3 x4 M) := by
  unfold bX5_isSo_3
  refine b_iload hO dX5_isSo_3 4 rfl ?_
  refine b_aload_n hO dX5_isSo_5 0 rfl rfl ?_
  refine b_get hO flX5_9 kLX_21 (v := .int (gI _ 2688)) rfl dX5_isSo_6 ?_
  refine b_icmp_ge hO dX5_isSo_9 (tgt := 85) (by decide) ?_ ?_
  · refine b_iconst hO dX5_isSo_85 ic_i_1 ?_
    exact b_zretc hO (Or.inr rfl) dX5_isSo_86
  · refine b_aload_n hO dX5_isSo_12 0 rfl rfl ?_
    refine b_get hO flX5_19 kLX_21 (v := .ref (ad 23)) rfl dX5_isSo_13 ?_
    refine b_iload hO dX5_isSo_16 4 rfl ?_
    refine b_iald hO kLX_23 (n := 16) rfl dX5_isSo_18 ?_
    refine b_iload_n hO dX5_isSo_19 1 rfl rfl ?_
    refine b_icmp_ne hO dX5_isSo_20 (tgt := 79) (by decide) ?_ ?_
    · exact tfX5_isSo_79 n0 q2 hq2 hO k3 hk3 _ _ _ _
    · refine b_aload_n hO dX5_isSo_23 0 rfl rfl ?_
      refine b_get hO flX5_15 kLX_21 (v := .ref (ad 22)) rfl dX5_isSo_24 ?_
      refine b_iload hO dX5_isSo_27 4 rfl ?_
      refine b_iald hO kLX_22 (n := 16) rfl dX5_isSo_29 ?_
      refine b_iload_n hO dX5_isSo_30 3 rfl rfl ?_
      refine b_icmp_gt hO dX5_isSo_31 (tgt := 50) (by decide) ?_ ?_
      · exact tfX5_isSo_50 n0 q2 hq2 hO k3 hk3 _ _ _ _
      · refine b_aload_n hO dX5_isSo_34 0 rfl rfl ?_
        refine b_get hO flX5_15 kLX_21 (v := .ref (ad 22)) rfl dX5_isSo_35 ?_
        refine b_iload hO dX5_isSo_38 4 rfl ?_
        refine b_iald hO kLX_22 (n := 16) rfl dX5_isSo_40 ?_
        refine b_aload_n hO dX5_isSo_41 2 rfl rfl ?_
        refine b_alen hO hq2 rfl dX5_isSo_42 ?_
        refine b_icmp_ge hO dX5_isSo_43 (tgt := 50) (by decide) ?_ ?_
        · exact tfX5_isSo_50 n0 q2 hq2 hO k3 hk3 _ _ _ _
        · refine b_iconst hO dX5_isSo_46 ic_i_1 ?_
          refine b_goto hO dX5_isSo_47 (tgt := 51) (by decide) ?_
          exact tfX5_isSo_51 n0 q2 hq2 hO k3 hk3 _ _ _ _ _
theorem lX5_isSo_3 (n0 : Nat) (q2 : Nat) (hq2 : isK LX q2 13) (hO : OKc p (rmL 1) s m args meth c LX D cy ad cX5_isSo RX5 6 1 (some .boolean)) : ∀ (w : Nat) (x1 : Int32) (x3 : Int32) (x4 : Int32) (M : Mem), BL p l e (rmL 1) s m args below meth c LX D cy ad 6 (QI LX D cy ad) 3 [(0, .ref (ad 21)), (1, .int x1), (2, .ref (ad q2)), (3, .int x3), (4, .int x4)] [] M (loopN (bX5_isSo_3 n0 q2) (fun _ _ _ _ => none) w x1 x3 x4 M) := by
  intro w
  induction w with
  | zero =>
    intros
    exact b_none
  | succ w ih =>
    intro x1 x3 x4 M
    exact tbX5_isSo_3 n0 q2 hq2 hO _ ih x1 x3 x4 M
theorem tfX5_isSo_3 (n0 : Nat) (q2 : Nat) (hq2 : isK LX q2 13) (hO : OKc p (rmL 1) s m args meth c LX D cy ad cX5_isSo RX5 6 1 (some .boolean)) (x1 : Int32) (x3 : Int32) (x4 : Int32) (M : Mem) : BL p l e (rmL 1) s m args below meth c LX D cy ad 6 (QI LX D cy ad) 3 [(0, .ref (ad 21)), (1, .int x1), (2, .ref (ad q2)), (3, .int x3), (4, .int x4)] [] M (fX5_isSo_3 n0 q2 x1 x3 x4 M) := lX5_isSo_3 n0 q2 hq2 hO n0 x1 x3 x4 M
theorem tfX5_isSo (n0 : Nat) (q2 : Nat) (hq2 : isK LX q2 13) (hO : OKc p (rmL 1) s m args meth c LX D cy ad cX5_isSo RX5 6 1 (some .boolean)) (x1 : Int32) (x3 : Int32) (M : Mem) : BL p l e (rmL 1) s m args below meth c LX D cy ad 6 (QI LX D cy ad) 0 [(0, .ref (ad 21)), (1, .int x1), (2, .ref (ad q2)), (3, .int x3)] [] M (fX5_isSo n0 q2 x1 x3 M) := by
  unfold fX5_isSo
  refine b_iconst hO dX5_isSo_0 ic_i_0 ?_
  refine b_istore hO dX5_isSo_1 (by decide) (lv' := [(4, .int _), (0, .ref _), (1, .int _), (2, .ref _), (3, .int _)]) rfl ?_
  refine b_sub [1, 2, 3, 4, 0] rfl ?_
  exact tfX5_isSo_3 n0 q2 hq2 hO _ _ _ _
theorem ctX5_isSo (n0 : Nat) (q2 : Nat) (hq2 : isK LX q2 13) (hI : Inj LX ad) (x1 : Int32) (x3 : Int32) (M : Mem) : CT l LX D cy ad yX5_isSo cX5_isSo 6 (some .boolean) 1 (QI LX D cy ad) [.ref (ad 21), .int x1, .ref (ad q2), .int x3] M (fX5_isSo n0 q2 x1 x3 M) :=
  CT.mk LXok hI (by decide) (Nat.le_of_ble_eq_true rfl) (fun hO => tfX5_isSo n0 q2 hq2 hO x1 x3 M)
/-! X5_noteHours -/
def bX5_noteHours_14 (n0 : Nat) (q2 : Nat) (k14 : Int32 → Int32 → Int32 → Mem → Option (Mem)) (x1 : Int32) (x3 : Int32) (x4 : Int32) (M : Mem) : Option (Mem) :=
  if x3 < x4 then
    some M
  else
    if (40 : Int32) < x4 then
      some M
    else
      if (Int32.ofNat (LX.ln q2)) ≤ x4 then
        some M
      else
        if oob x1 7 then none else
        if oob x4 (LX.ln q2) then none else
        if oob x4 (LX.ln (83 + Int32.toNatClampNeg x1)) then none else
        bnd (sA M (83 + Int32.toNatClampNeg x1) (Int32.toNatClampNeg x4) (gA M q2 (Int32.toNatClampNeg x4))) fun M46 =>
        k14 x1 x3 (x4 + (1 : Int32)) M46
def fX5_noteHours_14 (n0 : Nat) (q2 : Nat) : Int32 → Int32 → Int32 → Mem → Option (Mem) := loopN (bX5_noteHours_14 n0 q2) (fun _ _ _ _ => none) n0
def fX5_noteHours (n0 : Nat) (q2 : Nat) (x1 : Int32) (x3 : Int32) (M : Mem) : Option (Mem) :=
  if x1 < 0 then
    some M
  else
    if x1 < (7 : Int32) then
      fX5_noteHours_14 n0 q2 x1 x3 (0 : Int32) M
    else
      some M
theorem tbX5_noteHours_14 (n0 : Nat) (q2 : Nat) (hq2 : isK LX q2 13) (hO : OKc p (rmL 1) s m args meth c LX D cy ad cX5_noteHours RX5 5 1 none) (k14 : Int32 → Int32 → Int32 → Mem → Option (Mem)) (hk14 : ∀ (x1 : Int32) (x3 : Int32) (x4 : Int32) (M : Mem), BL p l e (rmL 1) s m args below meth c LX D cy ad 5 (QV LX D cy ad) 14 [(0, .ref (ad 21)), (1, .int x1), (2, .ref (ad q2)), (3, .int x3), (4, .int x4)] [] M (k14 x1 x3 x4 M)) (x1 : Int32) (x3 : Int32) (x4 : Int32) (M : Mem) : BL p l e (rmL 1) s m args below meth c LX D cy ad 5 (QV LX D cy ad) 14 [(0, .ref (ad 21)), (1, .int x1), (2, .ref (ad q2)), (3, .int x3), (4, .int x4)] [] M (bX5_noteHours_14 n0 q2 k14 x1 x3 x4 M) := by
  unfold bX5_noteHours_14
  refine b_iload hO dX5_noteHours_14 4 rfl ?_
  refine b_iload_n hO dX5_noteHours_16 3 rfl rfl ?_
  refine b_icmp_gt hO dX5_noteHours_17 (tgt := 53) (by decide) ?_ ?_
  · exact b_vret hO dX5_noteHours_53
  · refine b_iload hO dX5_noteHours_20 4 rfl ?_
    refine b_bipush hO dX5_noteHours_22 ic_b_40 ?_
    refine b_icmp_gt hO dX5_noteHours_24 (tgt := 53) (by decide) ?_ ?_
    · exact b_vret hO dX5_noteHours_53
    · refine b_iload hO dX5_noteHours_27 4 rfl ?_
      refine b_aload_n hO dX5_noteHours_29 2 rfl rfl ?_
      refine b_alen hO hq2 rfl dX5_noteHours_30 ?_
      refine b_icmp_ge hO dX5_noteHours_31 (tgt := 53) (by decide) ?_ ?_
      · exact b_vret hO dX5_noteHours_53
      · refine b_aload_n hO dX5_noteHours_34 0 rfl rfl ?_
        refine b_get hO flX5_27 kLX_21 (v := .ref (ad 25)) rfl dX5_noteHours_35 ?_
        refine b_iload_n hO dX5_noteHours_38 1 rfl rfl ?_
        refine b_aald hO kLX_25 (n := 7) rfl (b := 83) rfl dX5_noteHours_39 kg_25 (fun hg1 => ?_)
        refine b_iload hO dX5_noteHours_40 4 rfl ?_
        refine b_aload_n hO dX5_noteHours_42 2 rfl rfl ?_
        refine b_iload hO dX5_noteHours_43 4 rfl ?_
        refine b_iald hO hq2 (n := (LX.ln q2)) rfl dX5_noteHours_45 ?_
        refine b_iast hO hg1 (n := (LX.ln (83 + Int32.toNatClampNeg x1))) rfl dX5_noteHours_46 ?_
        refine b_bnd (fun M46 => ?_)
        refine b_iinc hO dX5_noteHours_47 4 rfl ic_i_1 (by decide) (lv' := [(4, .int _), (0, .ref _), (1, .int _), (2, .ref _), (3, .int _)]) rfl ?_
        refine b_goto hO dX5_noteHours_50 (tgt := 14) (by decide) ?_
        refine b_sub [1, 2, 3, 4, 0] rfl ?_
        exact hk14 _ _ _ _
theorem lX5_noteHours_14 (n0 : Nat) (q2 : Nat) (hq2 : isK LX q2 13) (hO : OKc p (rmL 1) s m args meth c LX D cy ad cX5_noteHours RX5 5 1 none) : ∀ (w : Nat) (x1 : Int32) (x3 : Int32) (x4 : Int32) (M : Mem), BL p l e (rmL 1) s m args below meth c LX D cy ad 5 (QV LX D cy ad) 14 [(0, .ref (ad 21)), (1, .int x1), (2, .ref (ad q2)), (3, .int x3), (4, .int x4)] [] M (loopN (bX5_noteHours_14 n0 q2) (fun _ _ _ _ => none) w x1 x3 x4 M) := by
  intro w
  induction w with
  | zero =>
    intros
    exact b_none
  | succ w ih =>
    intro x1 x3 x4 M
    exact tbX5_noteHours_14 n0 q2 hq2 hO _ ih x1 x3 x4 M
theorem tfX5_noteHours_14 (n0 : Nat) (q2 : Nat) (hq2 : isK LX q2 13) (hO : OKc p (rmL 1) s m args meth c LX D cy ad cX5_noteHours RX5 5 1 none) (x1 : Int32) (x3 : Int32) (x4 : Int32) (M : Mem) : BL p l e (rmL 1) s m args below meth c LX D cy ad 5 (QV LX D cy ad) 14 [(0, .ref (ad 21)), (1, .int x1), (2, .ref (ad q2)), (3, .int x3), (4, .int x4)] [] M (fX5_noteHours_14 n0 q2 x1 x3 x4 M) := lX5_noteHours_14 n0 q2 hq2 hO n0 x1 x3 x4 M
theorem tfX5_noteHours (n0 : Nat) (q2 : Nat) (hq2 : isK LX q2 13) (hO : OKc p (rmL 1) s m args meth c LX D cy ad cX5_noteHours RX5 5 1 none) (x1 : Int32) (x3 : Int32) (M : Mem) : BL p l e (rmL 1) s m args below meth c LX D cy ad 5 (QV LX D cy ad) 0 [(0, .ref (ad 21)), (1, .int x1), (2, .ref (ad q2)), (3, .int x3)] [] M (fX5_noteHours n0 q2 x1 x3 M) := by
  unfold fX5_noteHours
  refine b_iload_n hO dX5_noteHours_0 1 rfl rfl ?_
  refine b_if_lt hO dX5_noteHours_1 (tgt := 10) (by decide) ?_ ?_
  · exact b_vret hO dX5_noteHours_10
  · refine b_iload_n hO dX5_noteHours_4 1 rfl rfl ?_
    refine b_bipush hO dX5_noteHours_5 ic_b_7 ?_
    refine b_icmp_lt hO dX5_noteHours_7 (tgt := 11) (by decide) ?_ ?_
    · refine b_iconst hO dX5_noteHours_11 ic_i_0 ?_
      refine b_istore hO dX5_noteHours_12 (by decide) (lv' := [(4, .int _), (0, .ref _), (1, .int _), (2, .ref _), (3, .int _)]) rfl ?_
      refine b_sub [1, 2, 3, 4, 0] rfl ?_
      exact tfX5_noteHours_14 n0 q2 hq2 hO _ _ _ _
    · exact b_vret hO dX5_noteHours_10
theorem ctX5_noteHours (n0 : Nat) (q2 : Nat) (hq2 : isK LX q2 13) (hI : Inj LX ad) (x1 : Int32) (x3 : Int32) (M : Mem) : CT l LX D cy ad yX5_noteHours cX5_noteHours 5 none 1 (QV LX D cy ad) [.ref (ad 21), .int x1, .ref (ad q2), .int x3] M (fX5_noteHours n0 q2 x1 x3 M) :=
  CT.mk LXok hI (by decide) (Nat.le_of_ble_eq_true rfl) (fun hO => tfX5_noteHours n0 q2 hq2 hO x1 x3 M)
/-! X5_mostLeft -/
def fX5_mostLeft_93 (n0 : Nat) (k17 : Int32 → Int32 → Int32 → Int32 → Mem → Option (Int32 × Mem)) (k30 : Int32 → Int32 → Int32 → Int32 → Int32 → Int32 → Mem → Option (Int32 × Mem)) (x1 : Int32) (x2 : Int32) (x3 : Int32) (x4 : Int32) (x5 : Int32) (x6 : Int32) (M : Mem) : Option (Int32 × Mem) :=
  k30 x1 x2 x3 x4 x5 (x6 + (1 : Int32)) M
def fX5_mostLeft_62 (n0 : Nat) (k17 : Int32 → Int32 → Int32 → Int32 → Mem → Option (Int32 × Mem)) (k30 : Int32 → Int32 → Int32 → Int32 → Int32 → Int32 → Mem → Option (Int32 × Mem)) (x1 : Int32) (x2 : Int32) (x3 : Int32) (x4 : Int32) (x5 : Int32) (x6 : Int32) (u0 : Int32) (M : Mem) : Option (Int32 × Mem) :=
  if u0 = 0 then
    fX5_mostLeft_93 n0 k17 k30 x1 x2 x3 x4 x5 x6 M
  else
    if oob x4 7 then none else
    if oob x2 (LX.ln (83 + Int32.toNatClampNeg x4)) then none else
    if oob x6 7 then none else
    if oob x2 (LX.ln (83 + Int32.toNatClampNeg x6)) then none else
    if (gA M (83 + Int32.toNatClampNeg x4) (Int32.toNatClampNeg x2)) = (gA M (83 + Int32.toNatClampNeg x6) (Int32.toNatClampNeg x2)) then
      fX5_mostLeft_93 n0 k17 k30 x1 x2 x3 x4 (x5 + (1 : Int32)) x6 M
    else
      fX5_mostLeft_93 n0 k17 k30 x1 x2 x3 x4 x5 x6 M
def fX5_mostLeft_61 (n0 : Nat) (k17 : Int32 → Int32 → Int32 → Int32 → Mem → Option (Int32 × Mem)) (k30 : Int32 → Int32 → Int32 → Int32 → Int32 → Int32 → Mem → Option (Int32 × Mem)) (x1 : Int32) (x2 : Int32) (x3 : Int32) (x4 : Int32) (x5 : Int32) (x6 : Int32) (M : Mem) : Option (Int32 × Mem) :=
  fX5_mostLeft_62 n0 k17 k30 x1 x2 x3 x4 x5 x6 (0 : Int32) M
def bX5_mostLeft_30 (n0 : Nat) (k17 : Int32 → Int32 → Int32 → Int32 → Mem → Option (Int32 × Mem)) (k30 : Int32 → Int32 → Int32 → Int32 → Int32 → Int32 → Mem → Option (Int32 × Mem)) (x1 : Int32) (x2 : Int32) (x3 : Int32) (x4 : Int32) (x5 : Int32) (x6 : Int32) (M : Mem) : Option (Int32 × Mem) :=
  if (7 : Int32) ≤ x6 then
    bnd (imax x3 x5) fun x3_105 =>
    k17 x1 x2 x3_105 (x4 + (1 : Int32)) M
  else
    if ((x1 >>> (x4 &&& 31)) &&& (1 : Int32)) = (1 : Int32) then
      if ((x1 >>> (x6 &&& 31)) &&& (1 : Int32)) = (1 : Int32) then
        fX5_mostLeft_62 n0 k17 k30 x1 x2 x3 x4 x5 x6 (1 : Int32) M
      else
        fX5_mostLeft_61 n0 k17 k30 x1 x2 x3 x4 x5 x6 M
    else
      fX5_mostLeft_61 n0 k17 k30 x1 x2 x3 x4 x5 x6 M
def fX5_mostLeft_30 (n0 : Nat) (k17 : Int32 → Int32 → Int32 → Int32 → Mem → Option (Int32 × Mem)) : Int32 → Int32 → Int32 → Int32 → Int32 → Int32 → Mem → Option (Int32 × Mem) := loopN (bX5_mostLeft_30 n0 k17) (fun _ _ _ _ _ _ _ => none) n0
def bX5_mostLeft_17 (n0 : Nat) (k17 : Int32 → Int32 → Int32 → Int32 → Mem → Option (Int32 × Mem)) (x1 : Int32) (x2 : Int32) (x3 : Int32) (x4 : Int32) (M : Mem) : Option (Int32 × Mem) :=
  if (7 : Int32) ≤ x4 then
    some (x3, M)
  else
    fX5_mostLeft_30 n0 k17 x1 x2 x3 x4 (0 : Int32) (0 : Int32) M
def fX5_mostLeft_17 (n0 : Nat) : Int32 → Int32 → Int32 → Int32 → Mem → Option (Int32 × Mem) := loopN (bX5_mostLeft_17 n0) (fun _ _ _ _ _ => none) n0
def fX5_mostLeft (n0 : Nat) (x1 : Int32) (x2 : Int32) (M : Mem) : Option (Int32 × Mem) :=
  if x2 < 0 then
    some ((0 : Int32), M)
  else
    if x2 ≤ (40 : Int32) then
      fX5_mostLeft_17 n0 x1 x2 (0 : Int32) (0 : Int32) M
    else
      some ((0 : Int32), M)
theorem tfX5_mostLeft_93 (n0 : Nat) (hO : OKc p (rmL 1) s m args meth c LX D cy ad cX5_mostLeft RX5 8 1 (some .int)) (k17 : Int32 → Int32 → Int32 → Int32 → Mem → Option (Int32 × Mem)) (k30 : Int32 → Int32 → Int32 → Int32 → Int32 → Int32 → Mem → Option (Int32 × Mem)) (hk17 : ∀ (x1 : Int32) (x2 : Int32) (x3 : Int32) (x4 : Int32) (M : Mem), BL p l e (rmL 1) s m args below meth c LX D cy ad 8 (QI LX D cy ad) 17 [(0, .ref (ad 21)), (1, .int x1), (2, .int x2), (3, .int x3), (4, .int x4)] [] M (k17 x1 x2 x3 x4 M)) (hk30 : ∀ (x1 : Int32) (x2 : Int32) (x3 : Int32) (x4 : Int32) (x5 : Int32) (x6 : Int32) (M : Mem), BL p l e (rmL 1) s m args below meth c LX D cy ad 8 (QI LX D cy ad) 30 [(0, .ref (ad 21)), (1, .int x1), (2, .int x2), (3, .int x3), (4, .int x4), (5, .int x5), (6, .int x6)] [] M (k30 x1 x2 x3 x4 x5 x6 M)) (x1 : Int32) (x2 : Int32) (x3 : Int32) (x4 : Int32) (x5 : Int32) (x6 : Int32) (M : Mem) : BL p l e (rmL 1) s m args below meth c LX D cy ad 8 (QI LX D cy ad) 93 [(0, .ref (ad 21)), (1, .int x1), (2, .int x2), (3, .int x3), (4, .int x4), (5, .int x5), (6, .int x6)] [] M (fX5_mostLeft_93 n0 k17 k30 x1 x2 x3 x4 x5 x6 M) := by
  unfold fX5_mostLeft_93
  refine b_iinc hO dX5_mostLeft_93 6 rfl ic_i_1 (by decide) (lv' := [(6, .int _), (0, .ref _), (1, .int _), (2, .int _), (3, .int _), (4, .int _), (5, .int _)]) rfl ?_
  refine b_goto hO dX5_mostLeft_96 (tgt := 30) (by decide) ?_
  refine b_sub [1, 2, 3, 4, 5, 6, 0] rfl ?_
  exact hk30 _ _ _ _ _ _ _
theorem tfX5_mostLeft_62 (n0 : Nat) (hO : OKc p (rmL 1) s m args meth c LX D cy ad cX5_mostLeft RX5 8 1 (some .int)) (k17 : Int32 → Int32 → Int32 → Int32 → Mem → Option (Int32 × Mem)) (k30 : Int32 → Int32 → Int32 → Int32 → Int32 → Int32 → Mem → Option (Int32 × Mem)) (hk17 : ∀ (x1 : Int32) (x2 : Int32) (x3 : Int32) (x4 : Int32) (M : Mem), BL p l e (rmL 1) s m args below meth c LX D cy ad 8 (QI LX D cy ad) 17 [(0, .ref (ad 21)), (1, .int x1), (2, .int x2), (3, .int x3), (4, .int x4)] [] M (k17 x1 x2 x3 x4 M)) (hk30 : ∀ (x1 : Int32) (x2 : Int32) (x3 : Int32) (x4 : Int32) (x5 : Int32) (x6 : Int32) (M : Mem), BL p l e (rmL 1) s m args below meth c LX D cy ad 8 (QI LX D cy ad) 30 [(0, .ref (ad 21)), (1, .int x1), (2, .int x2), (3, .int x3), (4, .int x4), (5, .int x5), (6, .int x6)] [] M (k30 x1 x2 x3 x4 x5 x6 M)) (x1 : Int32) (x2 : Int32) (x3 : Int32) (x4 : Int32) (x5 : Int32) (x6 : Int32) (u0 : Int32) (M : Mem) : BL p l e (rmL 1) s m args below meth c LX D cy ad 8 (QI LX D cy ad) 62 [(0, .ref (ad 21)), (1, .int x1), (2, .int x2), (3, .int x3), (4, .int x4), (5, .int x5), (6, .int x6)] [.int u0] M (fX5_mostLeft_62 n0 k17 k30 x1 x2 x3 x4 x5 x6 u0 M) := by
  unfold fX5_mostLeft_62
  refine b_istore hO dX5_mostLeft_62 (by decide) (lv' := [(7, .int _), (0, .ref _), (1, .int _), (2, .int _), (3, .int _), (4, .int _), (5, .int _), (6, .int _)]) rfl ?_
  refine b_iload hO dX5_mostLeft_64 0 rfl ?_
  refine b_if_eq hO dX5_mostLeft_66 (tgt := 93) (by decide) ?_ ?_
  · refine b_sub [1, 2, 3, 4, 5, 6, 7] rfl ?_
    exact tfX5_mostLeft_93 n0 hO k17 k30 hk17 hk30 _ _ _ _ _ _ _
  · refine b_aload_n hO dX5_mostLeft_69 1 rfl rfl ?_
    refine b_get hO flX5_27 kLX_21 (v := .ref (ad 25)) rfl dX5_mostLeft_70 ?_
    refine b_iload hO dX5_mostLeft_73 5 rfl ?_
    refine b_aald hO kLX_25 (n := 7) rfl (b := 83) rfl dX5_mostLeft_75 kg_25 (fun hg1 => ?_)
    refine b_iload_n hO dX5_mostLeft_76 3 rfl rfl ?_
    refine b_iald hO hg1 (n := (LX.ln (83 + Int32.toNatClampNeg x4))) rfl dX5_mostLeft_77 ?_
    refine b_aload_n hO dX5_mostLeft_78 1 rfl rfl ?_
    refine b_get hO flX5_27 kLX_21 (v := .ref (ad 25)) rfl dX5_mostLeft_79 ?_
    refine b_iload hO dX5_mostLeft_82 7 rfl ?_
    refine b_aald hO kLX_25 (n := 7) rfl (b := 83) rfl dX5_mostLeft_84 kg_25 (fun hg2 => ?_)
    refine b_iload_n hO dX5_mostLeft_85 3 rfl rfl ?_
    refine b_iald hO hg2 (n := (LX.ln (83 + Int32.toNatClampNeg x6))) rfl dX5_mostLeft_86 ?_
    refine b_icmp_ne hO dX5_mostLeft_87 (tgt := 93) (by decide) ?_ ?_
    · refine b_sub [1, 2, 3, 4, 5, 6, 7] rfl ?_
      exact tfX5_mostLeft_93 n0 hO k17 k30 hk17 hk30 _ _ _ _ _ _ _
    · refine b_iinc hO dX5_mostLeft_90 6 rfl ic_i_1 (by decide) (lv' := [(5, .int _), (7, .int _), (0, .ref _), (1, .int _), (2, .int _), (3, .int _), (4, .int _), (6, .int _)]) rfl ?_
      refine b_sub [2, 3, 4, 5, 6, 0, 7] rfl ?_
      exact tfX5_mostLeft_93 n0 hO k17 k30 hk17 hk30 _ _ _ _ _ _ _
theorem tfX5_mostLeft_61 (n0 : Nat) (hO : OKc p (rmL 1) s m args meth c LX D cy ad cX5_mostLeft RX5 8 1 (some .int)) (k17 : Int32 → Int32 → Int32 → Int32 → Mem → Option (Int32 × Mem)) (k30 : Int32 → Int32 → Int32 → Int32 → Int32 → Int32 → Mem → Option (Int32 × Mem)) (hk17 : ∀ (x1 : Int32) (x2 : Int32) (x3 : Int32) (x4 : Int32) (M : Mem), BL p l e (rmL 1) s m args below meth c LX D cy ad 8 (QI LX D cy ad) 17 [(0, .ref (ad 21)), (1, .int x1), (2, .int x2), (3, .int x3), (4, .int x4)] [] M (k17 x1 x2 x3 x4 M)) (hk30 : ∀ (x1 : Int32) (x2 : Int32) (x3 : Int32) (x4 : Int32) (x5 : Int32) (x6 : Int32) (M : Mem), BL p l e (rmL 1) s m args below meth c LX D cy ad 8 (QI LX D cy ad) 30 [(0, .ref (ad 21)), (1, .int x1), (2, .int x2), (3, .int x3), (4, .int x4), (5, .int x5), (6, .int x6)] [] M (k30 x1 x2 x3 x4 x5 x6 M)) (x1 : Int32) (x2 : Int32) (x3 : Int32) (x4 : Int32) (x5 : Int32) (x6 : Int32) (M : Mem) : BL p l e (rmL 1) s m args below meth c LX D cy ad 8 (QI LX D cy ad) 61 [(0, .ref (ad 21)), (1, .int x1), (2, .int x2), (3, .int x3), (4, .int x4), (5, .int x5), (6, .int x6)] [] M (fX5_mostLeft_61 n0 k17 k30 x1 x2 x3 x4 x5 x6 M) := by
  unfold fX5_mostLeft_61
  refine b_iconst hO dX5_mostLeft_61 ic_i_0 ?_
  exact tfX5_mostLeft_62 n0 hO k17 k30 hk17 hk30 _ _ _ _ _ _ _ _
theorem tbX5_mostLeft_30 (n0 : Nat) (hO : OKc p (rmL 1) s m args meth c LX D cy ad cX5_mostLeft RX5 8 1 (some .int)) (k17 : Int32 → Int32 → Int32 → Int32 → Mem → Option (Int32 × Mem)) (k30 : Int32 → Int32 → Int32 → Int32 → Int32 → Int32 → Mem → Option (Int32 × Mem)) (hk17 : ∀ (x1 : Int32) (x2 : Int32) (x3 : Int32) (x4 : Int32) (M : Mem), BL p l e (rmL 1) s m args below meth c LX D cy ad 8 (QI LX D cy ad) 17 [(0, .ref (ad 21)), (1, .int x1), (2, .int x2), (3, .int x3), (4, .int x4)] [] M (k17 x1 x2 x3 x4 M)) (hk30 : ∀ (x1 : Int32) (x2 : Int32) (x3 : Int32) (x4 : Int32) (x5 : Int32) (x6 : Int32) (M : Mem), BL p l e (rmL 1) s m args below meth c LX D cy ad 8 (QI LX D cy ad) 30 [(0, .ref (ad 21)), (1, .int x1), (2, .int x2), (3, .int x3), (4, .int x4), (5, .int x5), (6, .int x6)] [] M (k30 x1 x2 x3 x4 x5 x6 M)) (x1 : Int32) (x2 : Int32) (x3 : Int32) (x4 : Int32) (x5 : Int32) (x6 : Int32) (M : Mem) : BL p l e (rmL 1) s m args below meth c LX D cy ad 8 (QI LX D cy ad) 30 [(0, .ref (ad 21)), (1, .int x1), (2, .int x2), (3, .int x3), (4, .int x4), (5, .int x5), (6, .int x6)] [] M (bX5_mostLeft_30 n0 k17 k30 x1 x2 x3 x4 x5 x6 M) := by
  unfold bX5_mostLeft_30
  refine b_iload hO dX5_mostLeft_30 6 rfl ?_
  refine b_bipush hO dX5_mostLeft_32 ic_b_7 ?_
  refine b_icmp_ge hO dX5_mostLeft_34 (tgt := 99) (by decide) ?_ ?_
  · refine b_iload_n hO dX5_mostLeft_99 3 rfl rfl ?_
    refine b_iload hO dX5_mostLeft_100 5 rfl ?_
    refine b_mmax hO w1123 w594 w136 wm595 (by first | decide | omega) (Nat.le_of_ble_eq_true rfl) dX5_mostLeft_102 ?_
    refine b_topI (fun x3_105 => ?_)
    refine b_istore_n hO dX5_mostLeft_105 rfl (by decide) (lv' := [(3, .int _), (0, .ref _), (1, .int _), (2, .int _), (4, .int _), (5, .int _), (6, .int _)]) rfl ?_
    refine b_iinc hO dX5_mostLeft_106 4 rfl ic_i_1 (by decide) (lv' := [(4, .int _), (3, .int _), (0, .ref _), (1, .int _), (2, .int _), (5, .int _), (6, .int _)]) rfl ?_
    refine b_goto hO dX5_mostLeft_109 (tgt := 17) (by decide) ?_
    refine b_sub [2, 3, 4, 1, 0] rfl ?_
    exact hk17 _ _ _ _ _
  · refine b_iload_n hO dX5_mostLeft_37 1 rfl rfl ?_
    refine b_iload hO dX5_mostLeft_38 4 rfl ?_
    refine b_ishr hO dX5_mostLeft_40 ?_
    refine b_iconst hO dX5_mostLeft_41 ic_i_1 ?_
    refine b_iand hO dX5_mostLeft_42 ?_
    refine b_iconst hO dX5_mostLeft_43 ic_i_1 ?_
    refine b_icmp_ne hO dX5_mostLeft_44 (tgt := 61) (by decide) ?_ ?_
    · exact tfX5_mostLeft_61 n0 hO k17 k30 hk17 hk30 _ _ _ _ _ _ _
    · refine b_iload_n hO dX5_mostLeft_47 1 rfl rfl ?_
      refine b_iload hO dX5_mostLeft_48 6 rfl ?_
      refine b_ishr hO dX5_mostLeft_50 ?_
      refine b_iconst hO dX5_mostLeft_51 ic_i_1 ?_
      refine b_iand hO dX5_mostLeft_52 ?_
      refine b_iconst hO dX5_mostLeft_53 ic_i_1 ?_
      refine b_icmp_ne hO dX5_mostLeft_54 (tgt := 61) (by decide) ?_ ?_
      · exact tfX5_mostLeft_61 n0 hO k17 k30 hk17 hk30 _ _ _ _ _ _ _
      · refine b_iconst hO dX5_mostLeft_57 ic_i_1 ?_
        refine b_goto hO dX5_mostLeft_58 (tgt := 62) (by decide) ?_
        exact tfX5_mostLeft_62 n0 hO k17 k30 hk17 hk30 _ _ _ _ _ _ _ _
theorem lX5_mostLeft_30 (n0 : Nat) (hO : OKc p (rmL 1) s m args meth c LX D cy ad cX5_mostLeft RX5 8 1 (some .int)) (k17 : Int32 → Int32 → Int32 → Int32 → Mem → Option (Int32 × Mem)) (hk17 : ∀ (x1 : Int32) (x2 : Int32) (x3 : Int32) (x4 : Int32) (M : Mem), BL p l e (rmL 1) s m args below meth c LX D cy ad 8 (QI LX D cy ad) 17 [(0, .ref (ad 21)), (1, .int x1), (2, .int x2), (3, .int x3), (4, .int x4)] [] M (k17 x1 x2 x3 x4 M)) : ∀ (w : Nat) (x1 : Int32) (x2 : Int32) (x3 : Int32) (x4 : Int32) (x5 : Int32) (x6 : Int32) (M : Mem), BL p l e (rmL 1) s m args below meth c LX D cy ad 8 (QI LX D cy ad) 30 [(0, .ref (ad 21)), (1, .int x1), (2, .int x2), (3, .int x3), (4, .int x4), (5, .int x5), (6, .int x6)] [] M (loopN (bX5_mostLeft_30 n0 k17) (fun _ _ _ _ _ _ _ => none) w x1 x2 x3 x4 x5 x6 M) := by
  intro w
  induction w with
  | zero =>
    intros
    exact b_none
  | succ w ih =>
    intro x1 x2 x3 x4 x5 x6 M
    exact tbX5_mostLeft_30 n0 hO k17 _ hk17 ih x1 x2 x3 x4 x5 x6 M
theorem tfX5_mostLeft_30 (n0 : Nat) (hO : OKc p (rmL 1) s m args meth c LX D cy ad cX5_mostLeft RX5 8 1 (some .int)) (k17 : Int32 → Int32 → Int32 → Int32 → Mem → Option (Int32 × Mem)) (hk17 : ∀ (x1 : Int32) (x2 : Int32) (x3 : Int32) (x4 : Int32) (M : Mem), BL p l e (rmL 1) s m args below meth c LX D cy ad 8 (QI LX D cy ad) 17 [(0, .ref (ad 21)), (1, .int x1), (2, .int x2), (3, .int x3), (4, .int x4)] [] M (k17 x1 x2 x3 x4 M)) (x1 : Int32) (x2 : Int32) (x3 : Int32) (x4 : Int32) (x5 : Int32) (x6 : Int32) (M : Mem) : BL p l e (rmL 1) s m args below meth c LX D cy ad 8 (QI LX D cy ad) 30 [(0, .ref (ad 21)), (1, .int x1), (2, .int x2), (3, .int x3), (4, .int x4), (5, .int x5), (6, .int x6)] [] M (fX5_mostLeft_30 n0 k17 x1 x2 x3 x4 x5 x6 M) := lX5_mostLeft_30 n0 hO k17 hk17 n0 x1 x2 x3 x4 x5 x6 M
theorem tbX5_mostLeft_17 (n0 : Nat) (hO : OKc p (rmL 1) s m args meth c LX D cy ad cX5_mostLeft RX5 8 1 (some .int)) (k17 : Int32 → Int32 → Int32 → Int32 → Mem → Option (Int32 × Mem)) (hk17 : ∀ (x1 : Int32) (x2 : Int32) (x3 : Int32) (x4 : Int32) (M : Mem), BL p l e (rmL 1) s m args below meth c LX D cy ad 8 (QI LX D cy ad) 17 [(0, .ref (ad 21)), (1, .int x1), (2, .int x2), (3, .int x3), (4, .int x4)] [] M (k17 x1 x2 x3 x4 M)) (x1 : Int32) (x2 : Int32) (x3 : Int32) (x4 : Int32) (M : Mem) : BL p l e (rmL 1) s m args below meth c LX D cy ad 8 (QI LX D cy ad) 17 [(0, .ref (ad 21)), (1, .int x1), (2, .int x2), (3, .int x3), (4, .int x4)] [] M (bX5_mostLeft_17 n0 k17 x1 x2 x3 x4 M) := by
  unfold bX5_mostLeft_17
  refine b_iload hO dX5_mostLeft_17 4 rfl ?_
  refine b_bipush hO dX5_mostLeft_19 ic_b_7 ?_
  refine b_icmp_ge hO dX5_mostLeft_21 (tgt := 112) (by decide) ?_ ?_
  · refine b_iload_n hO dX5_mostLeft_112 3 rfl rfl ?_
    exact b_iret hO dX5_mostLeft_113
  · refine b_iconst hO dX5_mostLeft_24 ic_i_0 ?_
    refine b_istore hO dX5_mostLeft_25 (by decide) (lv' := [(5, .int _), (0, .ref _), (1, .int _), (2, .int _), (3, .int _), (4, .int _)]) rfl ?_
    refine b_iconst hO dX5_mostLeft_27 ic_i_0 ?_
    refine b_istore hO dX5_mostLeft_28 (by decide) (lv' := [(6, .int _), (5, .int _), (0, .ref _), (1, .int _), (2, .int _), (3, .int _), (4, .int _)]) rfl ?_
    refine b_sub [2, 3, 4, 5, 6, 1, 0] rfl ?_
    exact tfX5_mostLeft_30 n0 hO k17 hk17 _ _ _ _ _ _ _
theorem lX5_mostLeft_17 (n0 : Nat) (hO : OKc p (rmL 1) s m args meth c LX D cy ad cX5_mostLeft RX5 8 1 (some .int)) : ∀ (w : Nat) (x1 : Int32) (x2 : Int32) (x3 : Int32) (x4 : Int32) (M : Mem), BL p l e (rmL 1) s m args below meth c LX D cy ad 8 (QI LX D cy ad) 17 [(0, .ref (ad 21)), (1, .int x1), (2, .int x2), (3, .int x3), (4, .int x4)] [] M (loopN (bX5_mostLeft_17 n0) (fun _ _ _ _ _ => none) w x1 x2 x3 x4 M) := by
  intro w
  induction w with
  | zero =>
    intros
    exact b_none
  | succ w ih =>
    intro x1 x2 x3 x4 M
    exact tbX5_mostLeft_17 n0 hO _ ih x1 x2 x3 x4 M
theorem tfX5_mostLeft_17 (n0 : Nat) (hO : OKc p (rmL 1) s m args meth c LX D cy ad cX5_mostLeft RX5 8 1 (some .int)) (x1 : Int32) (x2 : Int32) (x3 : Int32) (x4 : Int32) (M : Mem) : BL p l e (rmL 1) s m args below meth c LX D cy ad 8 (QI LX D cy ad) 17 [(0, .ref (ad 21)), (1, .int x1), (2, .int x2), (3, .int x3), (4, .int x4)] [] M (fX5_mostLeft_17 n0 x1 x2 x3 x4 M) := lX5_mostLeft_17 n0 hO n0 x1 x2 x3 x4 M
theorem tfX5_mostLeft (n0 : Nat) (hO : OKc p (rmL 1) s m args meth c LX D cy ad cX5_mostLeft RX5 8 1 (some .int)) (x1 : Int32) (x2 : Int32) (M : Mem) : BL p l e (rmL 1) s m args below meth c LX D cy ad 8 (QI LX D cy ad) 0 [(0, .ref (ad 21)), (1, .int x1), (2, .int x2)] [] M (fX5_mostLeft n0 x1 x2 M) := by
  unfold fX5_mostLeft
  refine b_iload_n hO dX5_mostLeft_0 2 rfl rfl ?_
  refine b_if_lt hO dX5_mostLeft_1 (tgt := 10) (by decide) ?_ ?_
  · refine b_iconst hO dX5_mostLeft_10 ic_i_0 ?_
    exact b_iret hO dX5_mostLeft_11
  · refine b_iload_n hO dX5_mostLeft_4 2 rfl rfl ?_
    refine b_bipush hO dX5_mostLeft_5 ic_b_40 ?_
    refine b_icmp_le hO dX5_mostLeft_7 (tgt := 12) (by decide) ?_ ?_
    · refine b_iconst hO dX5_mostLeft_12 ic_i_0 ?_
      refine b_istore_n hO dX5_mostLeft_13 rfl (by decide) (lv' := [(3, .int _), (0, .ref _), (1, .int _), (2, .int _)]) rfl ?_
      refine b_iconst hO dX5_mostLeft_14 ic_i_0 ?_
      refine b_istore hO dX5_mostLeft_15 (by decide) (lv' := [(4, .int _), (3, .int _), (0, .ref _), (1, .int _), (2, .int _)]) rfl ?_
      refine b_sub [2, 3, 4, 1, 0] rfl ?_
      exact tfX5_mostLeft_17 n0 hO _ _ _ _ _
    · refine b_iconst hO dX5_mostLeft_10 ic_i_0 ?_
      exact b_iret hO dX5_mostLeft_11
theorem ctX5_mostLeft (n0 : Nat) (hI : Inj LX ad) (x1 : Int32) (x2 : Int32) (M : Mem) : CT l LX D cy ad yX5_mostLeft cX5_mostLeft 8 (some .int) 1 (QI LX D cy ad) [.ref (ad 21), .int x1, .int x2] M (fX5_mostLeft n0 x1 x2 M) :=
  CT.mk LXok hI (by decide) (Nat.le_of_ble_eq_true rfl) (fun hO => tfX5_mostLeft n0 hO x1 x2 M)
end
end
section
section
variable {p : Program} {l : Launch} {e : Env} {s : State} {m : MethodId} {args : Array Value} {below : List Frame} {meth : Method} {c : Code} {D : va_G} {cy : Nat → ClassId} {ad : Nat → Nat} {dd : Nat}

/-! X10_shorten -/
def fX10_shorten (n0 : Nat) (x1 : Int32) (x2 : Int32) (x3 : Int32) (M : Mem) : Option (Mem) :=
  if oob x2 5 then none else
  if oob x1 5 then none else
  if oob x2 5 then none else
  some (sA M 19 (Int32.toNatClampNeg x2) (imin (gA M 19 (Int32.toNatClampNeg x2)) ((gA M 19 (Int32.toNatClampNeg x1)) + x3)))
theorem tfX10_shorten (n0 : Nat) (hO : OKc p (rmL 1) s m args meth c LX D cy ad cX10_shorten RX10 4 1 none) (x1 : Int32) (x2 : Int32) (x3 : Int32) (M : Mem) : BL p l e (rmL 1) s m args below meth c LX D cy ad 4 (QV LX D cy ad) 0 [(0, .ref (ad 18)), (1, .int x1), (2, .int x2), (3, .int x3)] [] M (fX10_shorten n0 x1 x2 x3 M) := by
  unfold fX10_shorten
  refine b_aload_n hO dX10_shorten_0 0 rfl rfl ?_
  refine b_get hO flX10_9 kLX_18 (v := .ref (ad 19)) rfl dX10_shorten_1 ?_
  refine b_iload_n hO dX10_shorten_4 2 rfl rfl ?_
  refine b_aload_n hO dX10_shorten_5 0 rfl rfl ?_
  refine b_get hO flX10_9 kLX_18 (v := .ref (ad 19)) rfl dX10_shorten_6 ?_
  refine b_iload_n hO dX10_shorten_9 2 rfl rfl ?_
  refine b_iald hO kLX_19 (n := 5) rfl dX10_shorten_10 ?_
  refine b_aload_n hO dX10_shorten_11 0 rfl rfl ?_
  refine b_get hO flX10_9 kLX_18 (v := .ref (ad 19)) rfl dX10_shorten_12 ?_
  refine b_iload_n hO dX10_shorten_15 1 rfl rfl ?_
  refine b_iald hO kLX_19 (n := 5) rfl dX10_shorten_16 ?_
  refine b_iload_n hO dX10_shorten_17 3 rfl rfl ?_
  refine b_iadd hO dX10_shorten_18 ?_
  refine b_mmin hO w1063 w591 w136 wm592 (by first | decide | omega) (Nat.le_of_ble_eq_true rfl) dX10_shorten_19 ?_
  refine b_iast hO kLX_19 (n := 5) rfl dX10_shorten_22 ?_
  exact b_vret hO dX10_shorten_23
theorem ctX10_shorten (n0 : Nat) (hI : Inj LX ad) (x1 : Int32) (x2 : Int32) (x3 : Int32) (M : Mem) : CT l LX D cy ad yX10_shorten cX10_shorten 4 none 1 (QV LX D cy ad) [.ref (ad 18), .int x1, .int x2, .int x3] M (fX10_shorten n0 x1 x2 x3 M) :=
  CT.mk LXok hI (by decide) (Nat.le_of_ble_eq_true rfl) (fun hO => tfX10_shorten n0 hO x1 x2 x3 M)
/-! X10_stepsOf -/
def fX10_stepsOf_27 (n0 : Nat) (q1 : Nat) (k3 : Int32 → Int32 → Int32 → Mem → Option (Int32 × Mem)) (x2 : Int32) (x3 : Int32) (x4 : Int32) (u1 : Int32) (u2 : Int32) (M : Mem) : Option (Int32 × Mem) :=
  if oob u1 5 then none else
  bnd (sA M 19 (Int32.toNatClampNeg u1) u2) fun M27 =>
  k3 x2 x3 (x4 + (1 : Int32)) M27
def bX10_stepsOf_49 (n0 : Nat) (q1 : Nat) (k37 : Int32 → Int32 → Mem → Option (Int32 × Mem)) (k49 : Int32 → Int32 → Int32 → Mem → Option (Int32 × Mem)) (x3 : Int32) (x4 : Int32) (x5 : Int32) (M : Mem) : Option (Int32 × Mem) :=
  if (gI M (128 * q1 + 8)) ≤ x5 then
    k37 x3 (x4 + (1 : Int32)) M
  else
    if oob x5 10 then none else
    if oob x5 10 then none else
    if oob x5 10 then none else
    (fX10_shorten n0 (gA M (q1 + 6) (Int32.toNatClampNeg x5)) (gA M (q1 + 7) (Int32.toNatClampNeg x5)) (gA M (q1 + 8) (Int32.toNatClampNeg x5)) M).bind fun z80 =>
    if oob x5 10 then none else
    if oob x5 10 then none else
    if oob x5 10 then none else
    (fX10_shorten n0 (gA z80 (q1 + 7) (Int32.toNatClampNeg x5)) (gA z80 (q1 + 6) (Int32.toNatClampNeg x5)) (gA z80 (q1 + 8) (Int32.toNatClampNeg x5)) z80).bind fun z105 =>
    k49 x3 x4 (x5 + (1 : Int32)) z105
def fX10_stepsOf_49 (n0 : Nat) (q1 : Nat) (k37 : Int32 → Int32 → Mem → Option (Int32 × Mem)) : Int32 → Int32 → Int32 → Mem → Option (Int32 × Mem) := loopN (bX10_stepsOf_49 n0 q1 k37) (fun _ _ _ _ => none) n0
def bX10_stepsOf_37 (n0 : Nat) (q1 : Nat) (k37 : Int32 → Int32 → Mem → Option (Int32 × Mem)) (x3 : Int32) (x4 : Int32) (M : Mem) : Option (Int32 × Mem) :=
  if (gI M (128 * q1 + 5)) ≤ x4 then
    (fX9_isCorner n0 q1 x3 M).bind fun z122 =>
    if z122.1 = 0 then
      some ((-1 : Int32), z122.2)
    else
      if oob x3 5 then none else
      if (1000000 : Int32) ≤ (gA z122.2 19 (Int32.toNatClampNeg x3)) then
        some ((-1 : Int32), z122.2)
      else
        if oob x3 5 then none else
        some ((gA z122.2 19 (Int32.toNatClampNeg x3)), z122.2)
  else
    fX10_stepsOf_49 n0 q1 k37 x3 x4 (0 : Int32) M
def fX10_stepsOf_37 (n0 : Nat) (q1 : Nat) : Int32 → Int32 → Mem → Option (Int32 × Mem) := loopN (bX10_stepsOf_37 n0 q1) (fun _ _ _ => none) n0
def bX10_stepsOf_3 (n0 : Nat) (q1 : Nat) (k3 : Int32 → Int32 → Int32 → Mem → Option (Int32 × Mem)) (x2 : Int32) (x3 : Int32) (x4 : Int32) (M : Mem) : Option (Int32 × Mem) :=
  if (5 : Int32) ≤ x4 then
    fX10_stepsOf_37 n0 q1 x3 (0 : Int32) M
  else
    if x4 = x2 then
      fX10_stepsOf_27 n0 q1 k3 x2 x3 x4 x4 (0 : Int32) M
    else
      fX10_stepsOf_27 n0 q1 k3 x2 x3 x4 x4 (1000000 : Int32) M
def fX10_stepsOf_3 (n0 : Nat) (q1 : Nat) : Int32 → Int32 → Int32 → Mem → Option (Int32 × Mem) := loopN (bX10_stepsOf_3 n0 q1) (fun _ _ _ _ => none) n0
def fX10_stepsOf (n0 : Nat) (q1 : Nat) (x2 : Int32) (x3 : Int32) (M : Mem) : Option (Int32 × Mem) :=
  fX10_stepsOf_3 n0 q1 x2 x3 (0 : Int32) M
theorem tfX10_stepsOf_27 (n0 : Nat) (q1 : Nat) (hq1 : isK LX q1 9) (hO : OKc p (rmL 2) s m args meth c LX D cy ad cX10_stepsOf RX10 6 2 (some .int)) (k3 : Int32 → Int32 → Int32 → Mem → Option (Int32 × Mem)) (hk3 : ∀ (x2 : Int32) (x3 : Int32) (x4 : Int32) (M : Mem), BL p l e (rmL 2) s m args below meth c LX D cy ad 6 (QI LX D cy ad) 3 [(0, .ref (ad 18)), (1, .ref (ad q1)), (2, .int x2), (3, .int x3), (4, .int x4)] [] M (k3 x2 x3 x4 M)) (x2 : Int32) (x3 : Int32) (x4 : Int32) (u1 : Int32) (u2 : Int32) (M : Mem) : BL p l e (rmL 2) s m args below meth c LX D cy ad 6 (QI LX D cy ad) 27 [(0, .ref (ad 18)), (1, .ref (ad q1)), (2, .int x2), (3, .int x3), (4, .int x4)] [.int u2, .int u1, .ref (ad 19)] M (fX10_stepsOf_27 n0 q1 k3 x2 x3 x4 u1 u2 M) := by
  unfold fX10_stepsOf_27
  refine b_iast hO kLX_19 (n := 5) rfl dX10_stepsOf_27 ?_
  refine b_bnd (fun M27 => ?_)
  refine b_iinc hO dX10_stepsOf_28 4 rfl ic_i_1 (by decide) (lv' := [(4, .int _), (0, .ref _), (1, .ref _), (2, .int _), (3, .int _)]) rfl ?_
  refine b_goto hO dX10_stepsOf_31 (tgt := 3) (by decide) ?_
  refine b_sub [1, 2, 3, 4, 0] rfl ?_
  exact hk3 _ _ _ _
theorem tbX10_stepsOf_49 (n0 : Nat) (q1 : Nat) (hq1 : isK LX q1 9) (hO : OKc p (rmL 2) s m args meth c LX D cy ad cX10_stepsOf RX10 6 2 (some .int)) (k37 : Int32 → Int32 → Mem → Option (Int32 × Mem)) (k49 : Int32 → Int32 → Int32 → Mem → Option (Int32 × Mem)) (hk37 : ∀ (x3 : Int32) (x4 : Int32) (M : Mem), BL p l e (rmL 2) s m args below meth c LX D cy ad 6 (QI LX D cy ad) 37 [(0, .ref (ad 18)), (1, .ref (ad q1)), (3, .int x3), (4, .int x4)] [] M (k37 x3 x4 M)) (hk49 : ∀ (x3 : Int32) (x4 : Int32) (x5 : Int32) (M : Mem), BL p l e (rmL 2) s m args below meth c LX D cy ad 6 (QI LX D cy ad) 49 [(0, .ref (ad 18)), (1, .ref (ad q1)), (3, .int x3), (4, .int x4), (5, .int x5)] [] M (k49 x3 x4 x5 M)) (x3 : Int32) (x4 : Int32) (x5 : Int32) (M : Mem) : BL p l e (rmL 2) s m args below meth c LX D cy ad 6 (QI LX D cy ad) 49 [(0, .ref (ad 18)), (1, .ref (ad q1)), (3, .int x3), (4, .int x4), (5, .int x5)] [] M (bX10_stepsOf_49 n0 q1 k37 k49 x3 x4 x5 M) := by
  unfold bX10_stepsOf_49
  refine b_iload hO dX10_stepsOf_49 4 rfl ?_
  refine b_aload_n hO dX10_stepsOf_51 1 rfl rfl ?_
  refine b_get hO flX10_25 hq1 (v := .int (gI _ (128 * q1 + 8))) rfl dX10_stepsOf_52 ?_
  refine b_icmp_ge hO dX10_stepsOf_55 (tgt := 114) (by decide) ?_ ?_
  · refine b_iinc hO dX10_stepsOf_114 3 rfl ic_i_1 (by decide) (lv' := [(4, .int _), (0, .ref _), (1, .ref _), (3, .int _), (5, .int _)]) rfl ?_
    refine b_goto hO dX10_stepsOf_117 (tgt := 37) (by decide) ?_
    refine b_sub [1, 2, 3, 0] rfl ?_
    exact hk37 _ _ _
  · refine b_aload_n hO dX10_stepsOf_58 0 rfl rfl ?_
    refine b_aload_n hO dX10_stepsOf_59 1 rfl rfl ?_
    refine b_get hO flX10_28 hq1 (v := .ref (ad (q1 + 6))) rfl dX10_stepsOf_60 ?_
    refine b_iload hO dX10_stepsOf_63 4 rfl ?_
    refine b_iald hO (kt_9_6 hq1) (n := 10) (lt_9_6 hq1) dX10_stepsOf_65 ?_
    refine b_aload_n hO dX10_stepsOf_66 1 rfl rfl ?_
    refine b_get hO flX10_31 hq1 (v := .ref (ad (q1 + 7))) rfl dX10_stepsOf_67 ?_
    refine b_iload hO dX10_stepsOf_70 4 rfl ?_
    refine b_iald hO (kt_9_7 hq1) (n := 10) (lt_9_7 hq1) dX10_stepsOf_72 ?_
    refine b_aload_n hO dX10_stepsOf_73 1 rfl rfl ?_
    refine b_get hO flX10_34 hq1 (v := .ref (ad (q1 + 8))) rfl dX10_stepsOf_74 ?_
    refine b_iload hO dX10_stepsOf_77 4 rfl ?_
    refine b_iald hO (kt_9_8 hq1) (n := 10) (lt_9_8 hq1) dX10_stepsOf_79 ?_
    refine b_callVV hO mdX10_shorten mvX10_shorten w1059 (ci := 10) rfl rfl (by decide) kLX_18 (As := [.int _, .int _, .int _]) (st := []) (ctX10_shorten n0 hO.2.2.2.2.2.2.1 _ _ _ _) (Nat.le_of_ble_eq_true rfl) rfl rfl (Nat.le_of_ble_eq_true rfl) dX10_stepsOf_80 (fun z80 => ?_)
    refine b_aload_n hO dX10_stepsOf_83 0 rfl rfl ?_
    refine b_aload_n hO dX10_stepsOf_84 1 rfl rfl ?_
    refine b_get hO flX10_31 hq1 (v := .ref (ad (q1 + 7))) rfl dX10_stepsOf_85 ?_
    refine b_iload hO dX10_stepsOf_88 4 rfl ?_
    refine b_iald hO (kt_9_7 hq1) (n := 10) (lt_9_7 hq1) dX10_stepsOf_90 ?_
    refine b_aload_n hO dX10_stepsOf_91 1 rfl rfl ?_
    refine b_get hO flX10_28 hq1 (v := .ref (ad (q1 + 6))) rfl dX10_stepsOf_92 ?_
    refine b_iload hO dX10_stepsOf_95 4 rfl ?_
    refine b_iald hO (kt_9_6 hq1) (n := 10) (lt_9_6 hq1) dX10_stepsOf_97 ?_
    refine b_aload_n hO dX10_stepsOf_98 1 rfl rfl ?_
    refine b_get hO flX10_34 hq1 (v := .ref (ad (q1 + 8))) rfl dX10_stepsOf_99 ?_
    refine b_iload hO dX10_stepsOf_102 4 rfl ?_
    refine b_iald hO (kt_9_8 hq1) (n := 10) (lt_9_8 hq1) dX10_stepsOf_104 ?_
    refine b_callVV hO mdX10_shorten mvX10_shorten w1059 (ci := 10) rfl rfl (by decide) kLX_18 (As := [.int _, .int _, .int _]) (st := []) (ctX10_shorten n0 hO.2.2.2.2.2.2.1 _ _ _ _) (Nat.le_of_ble_eq_true rfl) rfl rfl (Nat.le_of_ble_eq_true rfl) dX10_stepsOf_105 (fun z105 => ?_)
    refine b_iinc hO dX10_stepsOf_108 4 rfl ic_i_1 (by decide) (lv' := [(5, .int _), (0, .ref _), (1, .ref _), (3, .int _), (4, .int _)]) rfl ?_
    refine b_goto hO dX10_stepsOf_111 (tgt := 49) (by decide) ?_
    refine b_sub [1, 2, 3, 4, 0] rfl ?_
    exact hk49 _ _ _ _
theorem lX10_stepsOf_49 (n0 : Nat) (q1 : Nat) (hq1 : isK LX q1 9) (hO : OKc p (rmL 2) s m args meth c LX D cy ad cX10_stepsOf RX10 6 2 (some .int)) (k37 : Int32 → Int32 → Mem → Option (Int32 × Mem)) (hk37 : ∀ (x3 : Int32) (x4 : Int32) (M : Mem), BL p l e (rmL 2) s m args below meth c LX D cy ad 6 (QI LX D cy ad) 37 [(0, .ref (ad 18)), (1, .ref (ad q1)), (3, .int x3), (4, .int x4)] [] M (k37 x3 x4 M)) : ∀ (w : Nat) (x3 : Int32) (x4 : Int32) (x5 : Int32) (M : Mem), BL p l e (rmL 2) s m args below meth c LX D cy ad 6 (QI LX D cy ad) 49 [(0, .ref (ad 18)), (1, .ref (ad q1)), (3, .int x3), (4, .int x4), (5, .int x5)] [] M (loopN (bX10_stepsOf_49 n0 q1 k37) (fun _ _ _ _ => none) w x3 x4 x5 M) := by
  intro w
  induction w with
  | zero =>
    intros
    exact b_none
  | succ w ih =>
    intro x3 x4 x5 M
    exact tbX10_stepsOf_49 n0 q1 hq1 hO k37 _ hk37 ih x3 x4 x5 M
theorem tfX10_stepsOf_49 (n0 : Nat) (q1 : Nat) (hq1 : isK LX q1 9) (hO : OKc p (rmL 2) s m args meth c LX D cy ad cX10_stepsOf RX10 6 2 (some .int)) (k37 : Int32 → Int32 → Mem → Option (Int32 × Mem)) (hk37 : ∀ (x3 : Int32) (x4 : Int32) (M : Mem), BL p l e (rmL 2) s m args below meth c LX D cy ad 6 (QI LX D cy ad) 37 [(0, .ref (ad 18)), (1, .ref (ad q1)), (3, .int x3), (4, .int x4)] [] M (k37 x3 x4 M)) (x3 : Int32) (x4 : Int32) (x5 : Int32) (M : Mem) : BL p l e (rmL 2) s m args below meth c LX D cy ad 6 (QI LX D cy ad) 49 [(0, .ref (ad 18)), (1, .ref (ad q1)), (3, .int x3), (4, .int x4), (5, .int x5)] [] M (fX10_stepsOf_49 n0 q1 k37 x3 x4 x5 M) := lX10_stepsOf_49 n0 q1 hq1 hO k37 hk37 n0 x3 x4 x5 M
theorem tbX10_stepsOf_37 (n0 : Nat) (q1 : Nat) (hq1 : isK LX q1 9) (hO : OKc p (rmL 2) s m args meth c LX D cy ad cX10_stepsOf RX10 6 2 (some .int)) (k37 : Int32 → Int32 → Mem → Option (Int32 × Mem)) (hk37 : ∀ (x3 : Int32) (x4 : Int32) (M : Mem), BL p l e (rmL 2) s m args below meth c LX D cy ad 6 (QI LX D cy ad) 37 [(0, .ref (ad 18)), (1, .ref (ad q1)), (3, .int x3), (4, .int x4)] [] M (k37 x3 x4 M)) (x3 : Int32) (x4 : Int32) (M : Mem) : BL p l e (rmL 2) s m args below meth c LX D cy ad 6 (QI LX D cy ad) 37 [(0, .ref (ad 18)), (1, .ref (ad q1)), (3, .int x3), (4, .int x4)] [] M (bX10_stepsOf_37 n0 q1 k37 x3 x4 M) := by
  unfold bX10_stepsOf_37
  refine b_iload hO dX10_stepsOf_37 3 rfl ?_
  refine b_aload_n hO dX10_stepsOf_39 1 rfl rfl ?_
  refine b_get hO flX10_19 hq1 (v := .int (gI _ (128 * q1 + 5))) rfl dX10_stepsOf_40 ?_
  refine b_icmp_ge hO dX10_stepsOf_43 (tgt := 120) (by decide) ?_ ?_
  · refine b_aload_n hO dX10_stepsOf_120 1 rfl rfl ?_
    refine b_iload_n hO dX10_stepsOf_121 2 rfl rfl ?_
    refine b_callVI hO mdX9_isCorner mvX9_isCorner w1064 (ci := 9) rfl rfl (by decide) hq1 (As := [.int _]) (st := []) (ctX9_isCorner n0 _ hq1 hO.2.2.2.2.2.2.1 _ _) (Nat.le_of_ble_eq_true rfl) rfl rfl (Nat.le_of_ble_eq_true rfl) dX10_stepsOf_122 (fun z122 => ?_)
    refine b_if_eq hO dX10_stepsOf_125 (tgt := 148) (by decide) ?_ ?_
    · refine b_iconst hO dX10_stepsOf_148 ic_i_m1 ?_
      exact b_iret hO dX10_stepsOf_149
    · refine b_aload_n hO dX10_stepsOf_128 0 rfl rfl ?_
      refine b_get hO flX10_9 kLX_18 (v := .ref (ad 19)) rfl dX10_stepsOf_129 ?_
      refine b_iload_n hO dX10_stepsOf_132 2 rfl rfl ?_
      refine b_iald hO kLX_19 (n := 5) rfl dX10_stepsOf_133 ?_
      refine b_ldc hO w1058 dX10_stepsOf_134 ?_
      refine b_icmp_ge hO dX10_stepsOf_136 (tgt := 148) (by decide) ?_ ?_
      · refine b_iconst hO dX10_stepsOf_148 ic_i_m1 ?_
        exact b_iret hO dX10_stepsOf_149
      · refine b_aload_n hO dX10_stepsOf_139 0 rfl rfl ?_
        refine b_get hO flX10_9 kLX_18 (v := .ref (ad 19)) rfl dX10_stepsOf_140 ?_
        refine b_iload_n hO dX10_stepsOf_143 2 rfl rfl ?_
        refine b_iald hO kLX_19 (n := 5) rfl dX10_stepsOf_144 ?_
        refine b_goto hO dX10_stepsOf_145 (tgt := 149) (by decide) ?_
        exact b_iret hO dX10_stepsOf_149
  · refine b_iconst hO dX10_stepsOf_46 ic_i_0 ?_
    refine b_istore hO dX10_stepsOf_47 (by decide) (lv' := [(5, .int _), (0, .ref _), (1, .ref _), (3, .int _), (4, .int _)]) rfl ?_
    refine b_sub [1, 2, 3, 4, 0] rfl ?_
    exact tfX10_stepsOf_49 n0 q1 hq1 hO k37 hk37 _ _ _ _
theorem lX10_stepsOf_37 (n0 : Nat) (q1 : Nat) (hq1 : isK LX q1 9) (hO : OKc p (rmL 2) s m args meth c LX D cy ad cX10_stepsOf RX10 6 2 (some .int)) : ∀ (w : Nat) (x3 : Int32) (x4 : Int32) (M : Mem), BL p l e (rmL 2) s m args below meth c LX D cy ad 6 (QI LX D cy ad) 37 [(0, .ref (ad 18)), (1, .ref (ad q1)), (3, .int x3), (4, .int x4)] [] M (loopN (bX10_stepsOf_37 n0 q1) (fun _ _ _ => none) w x3 x4 M) := by
  intro w
  induction w with
  | zero =>
    intros
    exact b_none
  | succ w ih =>
    intro x3 x4 M
    exact tbX10_stepsOf_37 n0 q1 hq1 hO _ ih x3 x4 M
theorem tfX10_stepsOf_37 (n0 : Nat) (q1 : Nat) (hq1 : isK LX q1 9) (hO : OKc p (rmL 2) s m args meth c LX D cy ad cX10_stepsOf RX10 6 2 (some .int)) (x3 : Int32) (x4 : Int32) (M : Mem) : BL p l e (rmL 2) s m args below meth c LX D cy ad 6 (QI LX D cy ad) 37 [(0, .ref (ad 18)), (1, .ref (ad q1)), (3, .int x3), (4, .int x4)] [] M (fX10_stepsOf_37 n0 q1 x3 x4 M) := lX10_stepsOf_37 n0 q1 hq1 hO n0 x3 x4 M
theorem tbX10_stepsOf_3 (n0 : Nat) (q1 : Nat) (hq1 : isK LX q1 9) (hO : OKc p (rmL 2) s m args meth c LX D cy ad cX10_stepsOf RX10 6 2 (some .int)) (k3 : Int32 → Int32 → Int32 → Mem → Option (Int32 × Mem)) (hk3 : ∀ (x2 : Int32) (x3 : Int32) (x4 : Int32) (M : Mem), BL p l e (rmL 2) s m args below meth c LX D cy ad 6 (QI LX D cy ad) 3 [(0, .ref (ad 18)), (1, .ref (ad q1)), (2, .int x2), (3, .int x3), (4, .int x4)] [] M (k3 x2 x3 x4 M)) (x2 : Int32) (x3 : Int32) (x4 : Int32) (M : Mem) : BL p l e (rmL 2) s m args below meth c LX D cy ad 6 (QI LX D cy ad) 3 [(0, .ref (ad 18)), (1, .ref (ad q1)), (2, .int x2), (3, .int x3), (4, .int x4)] [] M (bX10_stepsOf_3 n0 q1 k3 x2 x3 x4 M) := by
  unfold bX10_stepsOf_3
  refine b_iload hO dX10_stepsOf_3 4 rfl ?_
  refine b_iconst hO dX10_stepsOf_5 ic_i_5 ?_
  refine b_icmp_ge hO dX10_stepsOf_6 (tgt := 34) (by decide) ?_ ?_
  · refine b_iconst hO dX10_stepsOf_34 ic_i_0 ?_
    refine b_istore hO dX10_stepsOf_35 (by decide) (lv' := [(4, .int _), (0, .ref _), (1, .ref _), (2, .int _), (3, .int _)]) rfl ?_
    refine b_sub [1, 2, 4, 0] rfl ?_
    exact tfX10_stepsOf_37 n0 q1 hq1 hO _ _ _
  · refine b_aload_n hO dX10_stepsOf_9 0 rfl rfl ?_
    refine b_get hO flX10_9 kLX_18 (v := .ref (ad 19)) rfl dX10_stepsOf_10 ?_
    refine b_iload hO dX10_stepsOf_13 4 rfl ?_
    refine b_iload hO dX10_stepsOf_15 4 rfl ?_
    refine b_iload_n hO dX10_stepsOf_17 2 rfl rfl ?_
    refine b_icmp_ne hO dX10_stepsOf_18 (tgt := 25) (by decide) ?_ ?_
    · refine b_ldc hO w1058 dX10_stepsOf_25 ?_
      exact tfX10_stepsOf_27 n0 q1 hq1 hO k3 hk3 _ _ _ _ _ _
    · refine b_iconst hO dX10_stepsOf_21 ic_i_0 ?_
      refine b_goto hO dX10_stepsOf_22 (tgt := 27) (by decide) ?_
      exact tfX10_stepsOf_27 n0 q1 hq1 hO k3 hk3 _ _ _ _ _ _
theorem lX10_stepsOf_3 (n0 : Nat) (q1 : Nat) (hq1 : isK LX q1 9) (hO : OKc p (rmL 2) s m args meth c LX D cy ad cX10_stepsOf RX10 6 2 (some .int)) : ∀ (w : Nat) (x2 : Int32) (x3 : Int32) (x4 : Int32) (M : Mem), BL p l e (rmL 2) s m args below meth c LX D cy ad 6 (QI LX D cy ad) 3 [(0, .ref (ad 18)), (1, .ref (ad q1)), (2, .int x2), (3, .int x3), (4, .int x4)] [] M (loopN (bX10_stepsOf_3 n0 q1) (fun _ _ _ _ => none) w x2 x3 x4 M) := by
  intro w
  induction w with
  | zero =>
    intros
    exact b_none
  | succ w ih =>
    intro x2 x3 x4 M
    exact tbX10_stepsOf_3 n0 q1 hq1 hO _ ih x2 x3 x4 M
theorem tfX10_stepsOf_3 (n0 : Nat) (q1 : Nat) (hq1 : isK LX q1 9) (hO : OKc p (rmL 2) s m args meth c LX D cy ad cX10_stepsOf RX10 6 2 (some .int)) (x2 : Int32) (x3 : Int32) (x4 : Int32) (M : Mem) : BL p l e (rmL 2) s m args below meth c LX D cy ad 6 (QI LX D cy ad) 3 [(0, .ref (ad 18)), (1, .ref (ad q1)), (2, .int x2), (3, .int x3), (4, .int x4)] [] M (fX10_stepsOf_3 n0 q1 x2 x3 x4 M) := lX10_stepsOf_3 n0 q1 hq1 hO n0 x2 x3 x4 M
theorem tfX10_stepsOf (n0 : Nat) (q1 : Nat) (hq1 : isK LX q1 9) (hO : OKc p (rmL 2) s m args meth c LX D cy ad cX10_stepsOf RX10 6 2 (some .int)) (x2 : Int32) (x3 : Int32) (M : Mem) : BL p l e (rmL 2) s m args below meth c LX D cy ad 6 (QI LX D cy ad) 0 [(0, .ref (ad 18)), (1, .ref (ad q1)), (2, .int x2), (3, .int x3)] [] M (fX10_stepsOf n0 q1 x2 x3 M) := by
  unfold fX10_stepsOf
  refine b_iconst hO dX10_stepsOf_0 ic_i_0 ?_
  refine b_istore hO dX10_stepsOf_1 (by decide) (lv' := [(4, .int _), (0, .ref _), (1, .ref _), (2, .int _), (3, .int _)]) rfl ?_
  refine b_sub [1, 2, 3, 4, 0] rfl ?_
  exact tfX10_stepsOf_3 n0 q1 hq1 hO _ _ _ _
theorem ctX10_stepsOf (n0 : Nat) (q1 : Nat) (hq1 : isK LX q1 9) (hI : Inj LX ad) (x2 : Int32) (x3 : Int32) (M : Mem) : CT l LX D cy ad yX10_stepsOf cX10_stepsOf 6 (some .int) 2 (QI LX D cy ad) [.ref (ad 18), .ref (ad q1), .int x2, .int x3] M (fX10_stepsOf n0 q1 x2 x3 M) :=
  CT.mk LXok hI (by decide) (Nat.le_of_ble_eq_true rfl) (fun hO => tfX10_stepsOf n0 q1 hq1 hO x2 x3 M)
/-! X10_across -/
def fX10_across (n0 : Nat) (q0 : Nat) (x1 : Int32) (x2 : Int32) (M : Mem) : Option (Int32 × Mem) :=
  if oob x1 10 then none else
  bnd (gA M (q0 + 6) (Int32.toNatClampNeg x1)) fun x3_6 =>
  if oob x1 10 then none else
  bnd (gA M (q0 + 7) (Int32.toNatClampNeg x1)) fun x4_13 =>
  some (((((x2 >>> (x3_6 &&& 31)) &&& (1 : Int32)) <<< (x4_13 &&& 31)) ||| (((x2 >>> (x4_13 &&& 31)) &&& (1 : Int32)) <<< (x3_6 &&& 31))), M)
theorem tfX10_across (n0 : Nat) (q0 : Nat) (hq0 : isK LX q0 9) (hO : OKc p (rmL 1) s m args meth c LX D cy ad cX10_across RX10 5 1 (some .int)) (x1 : Int32) (x2 : Int32) (M : Mem) : BL p l e (rmL 1) s m args below meth c LX D cy ad 5 (QI LX D cy ad) 0 [(0, .ref (ad q0)), (1, .int x1), (2, .int x2)] [] M (fX10_across n0 q0 x1 x2 M) := by
  unfold fX10_across
  refine b_aload_n hO dX10_across_0 0 rfl rfl ?_
  refine b_get hO flX10_28 hq0 (v := .ref (ad (q0 + 6))) rfl dX10_across_1 ?_
  refine b_iload_n hO dX10_across_4 1 rfl rfl ?_
  refine b_iald hO (kt_9_6 hq0) (n := 10) (lt_9_6 hq0) dX10_across_5 ?_
  refine b_topI (fun x3_6 => ?_)
  refine b_istore_n hO dX10_across_6 rfl (by decide) (lv' := [(3, .int _), (0, .ref _), (1, .int _), (2, .int _)]) rfl ?_
  refine b_aload_n hO dX10_across_7 1 rfl rfl ?_
  refine b_get hO flX10_31 hq0 (v := .ref (ad (q0 + 7))) rfl dX10_across_8 ?_
  refine b_iload_n hO dX10_across_11 2 rfl rfl ?_
  refine b_iald hO (kt_9_7 hq0) (n := 10) (lt_9_7 hq0) dX10_across_12 ?_
  refine b_topI (fun x4_13 => ?_)
  refine b_istore hO dX10_across_13 (by decide) (lv' := [(4, .int _), (3, .int _), (0, .ref _), (1, .int _), (2, .int _)]) rfl ?_
  refine b_iload_n hO dX10_across_15 4 rfl rfl ?_
  refine b_iload_n hO dX10_across_16 1 rfl rfl ?_
  refine b_ishr hO dX10_across_17 ?_
  refine b_iconst hO dX10_across_18 ic_i_1 ?_
  refine b_iand hO dX10_across_19 ?_
  refine b_iload hO dX10_across_20 0 rfl ?_
  refine b_ishl hO dX10_across_22 ?_
  refine b_iload_n hO dX10_across_23 4 rfl rfl ?_
  refine b_iload hO dX10_across_24 0 rfl ?_
  refine b_ishr hO dX10_across_26 ?_
  refine b_iconst hO dX10_across_27 ic_i_1 ?_
  refine b_iand hO dX10_across_28 ?_
  refine b_iload_n hO dX10_across_29 1 rfl rfl ?_
  refine b_ishl hO dX10_across_30 ?_
  refine b_ior hO dX10_across_31 ?_
  exact b_iret hO dX10_across_32
theorem ctX10_across (n0 : Nat) (q0 : Nat) (hq0 : isK LX q0 9) (hI : Inj LX ad) (x1 : Int32) (x2 : Int32) (M : Mem) : CT l LX D cy ad yX10_across cX10_across 5 (some .int) 1 (QI LX D cy ad) [.ref (ad q0), .int x1, .int x2] M (fX10_across n0 q0 x1 x2 M) :=
  CT.mk LXok hI (by decide) (Nat.le_of_ble_eq_true rfl) (fun hO => tfX10_across n0 q0 hq0 hO x1 x2 M)
/-! X10_goOutFrom -/
def fX10_goOutFrom_74 (n0 : Nat) (q1 : Nat) (k11 : Int32 → Mem → Option (Mem)) (k27 : Int32 → Int32 → Mem → Option (Mem)) (x3 : Int32) (x4 : Int32) (M : Mem) : Option (Mem) :=
  k27 x3 (x4 + (1 : Int32)) M
def bX10_goOutFrom_27 (n0 : Nat) (q1 : Nat) (k11 : Int32 → Mem → Option (Mem)) (k27 : Int32 → Int32 → Mem → Option (Mem)) (x3 : Int32) (x4 : Int32) (M : Mem) : Option (Mem) :=
  if (gI M (128 * q1 + 8)) ≤ x4 then
    k11 (x3 + (1 : Int32)) M
  else
    if oob x4 10 then none else
    bnd (x3 - (gA M (q1 + 8) (Int32.toNatClampNeg x4))) fun x5_45 =>
    if x5_45 < 0 then
      fX10_goOutFrom_74 n0 q1 k11 k27 x3 x4 M
    else
      if oob x3 61 then none else
      if oob x5_45 61 then none else
      (fX10_across n0 q1 x4 (gA M 20 (Int32.toNatClampNeg x5_45)) M).bind fun z69 =>
      if oob x3 61 then none else
      fX10_goOutFrom_74 n0 q1 k11 k27 x3 x4 (sA z69.2 20 (Int32.toNatClampNeg x3) ((gA M 20 (Int32.toNatClampNeg x3)) ||| z69.1))
def fX10_goOutFrom_27 (n0 : Nat) (q1 : Nat) (k11 : Int32 → Mem → Option (Mem)) : Int32 → Int32 → Mem → Option (Mem) := loopN (bX10_goOutFrom_27 n0 q1 k11) (fun _ _ _ => none) n0
def bX10_goOutFrom_11 (n0 : Nat) (q1 : Nat) (k11 : Int32 → Mem → Option (Mem)) (x3 : Int32) (M : Mem) : Option (Mem) :=
  if (60 : Int32) < x3 then
    some M
  else
    if oob x3 61 then none else
    bnd (sA M 20 (Int32.toNatClampNeg x3) (0 : Int32)) fun M23 =>
    fX10_goOutFrom_27 n0 q1 k11 x3 (0 : Int32) M23
def fX10_goOutFrom_11 (n0 : Nat) (q1 : Nat) : Int32 → Mem → Option (Mem) := loopN (bX10_goOutFrom_11 n0 q1) (fun _ _ => none) n0
def fX10_goOutFrom (n0 : Nat) (q1 : Nat) (x2 : Int32) (M : Mem) : Option (Mem) :=
  if oob (0 : Int32) 61 then none else
  bnd (sA M 20 (Int32.toNatClampNeg (0 : Int32)) ((1 : Int32) <<< (x2 &&& 31))) fun M8 =>
  fX10_goOutFrom_11 n0 q1 (1 : Int32) M8
theorem tfX10_goOutFrom_74 (n0 : Nat) (q1 : Nat) (hq1 : isK LX q1 9) (hO : OKc p (rmL 2) s m args meth c LX D cy ad cX10_goOutFrom RX10 6 2 none) (k11 : Int32 → Mem → Option (Mem)) (k27 : Int32 → Int32 → Mem → Option (Mem)) (hk11 : ∀ (x3 : Int32) (M : Mem), BL p l e (rmL 2) s m args below meth c LX D cy ad 6 (QV LX D cy ad) 11 [(0, .ref (ad 18)), (1, .ref (ad q1)), (3, .int x3)] [] M (k11 x3 M)) (hk27 : ∀ (x3 : Int32) (x4 : Int32) (M : Mem), BL p l e (rmL 2) s m args below meth c LX D cy ad 6 (QV LX D cy ad) 27 [(0, .ref (ad 18)), (1, .ref (ad q1)), (3, .int x3), (4, .int x4)] [] M (k27 x3 x4 M)) (x3 : Int32) (x4 : Int32) (M : Mem) : BL p l e (rmL 2) s m args below meth c LX D cy ad 6 (QV LX D cy ad) 74 [(0, .ref (ad 18)), (1, .ref (ad q1)), (3, .int x3), (4, .int x4)] [] M (fX10_goOutFrom_74 n0 q1 k11 k27 x3 x4 M) := by
  unfold fX10_goOutFrom_74
  refine b_iinc hO dX10_goOutFrom_74 3 rfl ic_i_1 (by decide) (lv' := [(4, .int _), (0, .ref _), (1, .ref _), (3, .int _)]) rfl ?_
  refine b_goto hO dX10_goOutFrom_77 (tgt := 27) (by decide) ?_
  refine b_sub [1, 2, 3, 0] rfl ?_
  exact hk27 _ _ _
theorem tbX10_goOutFrom_27 (n0 : Nat) (q1 : Nat) (hq1 : isK LX q1 9) (hO : OKc p (rmL 2) s m args meth c LX D cy ad cX10_goOutFrom RX10 6 2 none) (k11 : Int32 → Mem → Option (Mem)) (k27 : Int32 → Int32 → Mem → Option (Mem)) (hk11 : ∀ (x3 : Int32) (M : Mem), BL p l e (rmL 2) s m args below meth c LX D cy ad 6 (QV LX D cy ad) 11 [(0, .ref (ad 18)), (1, .ref (ad q1)), (3, .int x3)] [] M (k11 x3 M)) (hk27 : ∀ (x3 : Int32) (x4 : Int32) (M : Mem), BL p l e (rmL 2) s m args below meth c LX D cy ad 6 (QV LX D cy ad) 27 [(0, .ref (ad 18)), (1, .ref (ad q1)), (3, .int x3), (4, .int x4)] [] M (k27 x3 x4 M)) (x3 : Int32) (x4 : Int32) (M : Mem) : BL p l e (rmL 2) s m args below meth c LX D cy ad 6 (QV LX D cy ad) 27 [(0, .ref (ad 18)), (1, .ref (ad q1)), (3, .int x3), (4, .int x4)] [] M (bX10_goOutFrom_27 n0 q1 k11 k27 x3 x4 M) := by
  unfold bX10_goOutFrom_27
  refine b_iload hO dX10_goOutFrom_27 3 rfl ?_
  refine b_aload_n hO dX10_goOutFrom_29 1 rfl rfl ?_
  refine b_get hO flX10_25 hq1 (v := .int (gI _ (128 * q1 + 8))) rfl dX10_goOutFrom_30 ?_
  refine b_icmp_ge hO dX10_goOutFrom_33 (tgt := 80) (by decide) ?_ ?_
  · refine b_iinc hO dX10_goOutFrom_80 2 rfl ic_i_1 (by decide) (lv' := [(3, .int _), (0, .ref _), (1, .ref _), (4, .int _)]) rfl ?_
    refine b_goto hO dX10_goOutFrom_83 (tgt := 11) (by decide) ?_
    refine b_sub [1, 2, 0] rfl ?_
    exact hk11 _ _
  · refine b_iload_n hO dX10_goOutFrom_36 2 rfl rfl ?_
    refine b_aload_n hO dX10_goOutFrom_37 1 rfl rfl ?_
    refine b_get hO flX10_34 hq1 (v := .ref (ad (q1 + 8))) rfl dX10_goOutFrom_38 ?_
    refine b_iload hO dX10_goOutFrom_41 3 rfl ?_
    refine b_iald hO (kt_9_8 hq1) (n := 10) (lt_9_8 hq1) dX10_goOutFrom_43 ?_
    refine b_isub hO dX10_goOutFrom_44 ?_
    refine b_topI (fun x5_45 => ?_)
    refine b_istore hO dX10_goOutFrom_45 (by decide) (lv' := [(5, .int _), (0, .ref _), (1, .ref _), (3, .int _), (4, .int _)]) rfl ?_
    refine b_iload hO dX10_goOutFrom_47 0 rfl ?_
    refine b_if_lt hO dX10_goOutFrom_49 (tgt := 74) (by decide) ?_ ?_
    · refine b_sub [1, 2, 3, 4] rfl ?_
      exact tfX10_goOutFrom_74 n0 q1 hq1 hO k11 k27 hk11 hk27 _ _ _
    · refine b_aload_n hO dX10_goOutFrom_52 1 rfl rfl ?_
      refine b_get hO flX10_15 kLX_18 (v := .ref (ad 20)) rfl dX10_goOutFrom_53 ?_
      refine b_iload_n hO dX10_goOutFrom_56 3 rfl rfl ?_
      refine b_dup2 hO dX10_goOutFrom_57 rfl rfl ?_
      refine b_iald hO kLX_20 (n := 61) rfl dX10_goOutFrom_58 ?_
      refine b_aload_n hO dX10_goOutFrom_59 2 rfl rfl ?_
      refine b_iload hO dX10_goOutFrom_60 4 rfl ?_
      refine b_aload_n hO dX10_goOutFrom_62 1 rfl rfl ?_
      refine b_get hO flX10_15 kLX_18 (v := .ref (ad 20)) rfl dX10_goOutFrom_63 ?_
      refine b_iload hO dX10_goOutFrom_66 0 rfl ?_
      refine b_iald hO kLX_20 (n := 61) rfl dX10_goOutFrom_68 ?_
      refine b_callSI hO mdX10_across w1078 w1077 (As := [.ref _, .int _, .int _]) (st := [.int _, .int _, .ref _]) (ctX10_across n0 _ hq1 hO.2.2.2.2.2.2.1 _ _ _) (Nat.le_of_ble_eq_true rfl) rfl rfl (Nat.le_of_ble_eq_true rfl) dX10_goOutFrom_69 (fun z69 => ?_)
      refine b_ior hO dX10_goOutFrom_72 ?_
      refine b_iast hO kLX_20 (n := 61) rfl dX10_goOutFrom_73 ?_
      refine b_sub [1, 2, 3, 4] rfl ?_
      exact tfX10_goOutFrom_74 n0 q1 hq1 hO k11 k27 hk11 hk27 _ _ _
theorem lX10_goOutFrom_27 (n0 : Nat) (q1 : Nat) (hq1 : isK LX q1 9) (hO : OKc p (rmL 2) s m args meth c LX D cy ad cX10_goOutFrom RX10 6 2 none) (k11 : Int32 → Mem → Option (Mem)) (hk11 : ∀ (x3 : Int32) (M : Mem), BL p l e (rmL 2) s m args below meth c LX D cy ad 6 (QV LX D cy ad) 11 [(0, .ref (ad 18)), (1, .ref (ad q1)), (3, .int x3)] [] M (k11 x3 M)) : ∀ (w : Nat) (x3 : Int32) (x4 : Int32) (M : Mem), BL p l e (rmL 2) s m args below meth c LX D cy ad 6 (QV LX D cy ad) 27 [(0, .ref (ad 18)), (1, .ref (ad q1)), (3, .int x3), (4, .int x4)] [] M (loopN (bX10_goOutFrom_27 n0 q1 k11) (fun _ _ _ => none) w x3 x4 M) := by
  intro w
  induction w with
  | zero =>
    intros
    exact b_none
  | succ w ih =>
    intro x3 x4 M
    exact tbX10_goOutFrom_27 n0 q1 hq1 hO k11 _ hk11 ih x3 x4 M
theorem tfX10_goOutFrom_27 (n0 : Nat) (q1 : Nat) (hq1 : isK LX q1 9) (hO : OKc p (rmL 2) s m args meth c LX D cy ad cX10_goOutFrom RX10 6 2 none) (k11 : Int32 → Mem → Option (Mem)) (hk11 : ∀ (x3 : Int32) (M : Mem), BL p l e (rmL 2) s m args below meth c LX D cy ad 6 (QV LX D cy ad) 11 [(0, .ref (ad 18)), (1, .ref (ad q1)), (3, .int x3)] [] M (k11 x3 M)) (x3 : Int32) (x4 : Int32) (M : Mem) : BL p l e (rmL 2) s m args below meth c LX D cy ad 6 (QV LX D cy ad) 27 [(0, .ref (ad 18)), (1, .ref (ad q1)), (3, .int x3), (4, .int x4)] [] M (fX10_goOutFrom_27 n0 q1 k11 x3 x4 M) := lX10_goOutFrom_27 n0 q1 hq1 hO k11 hk11 n0 x3 x4 M
theorem tbX10_goOutFrom_11 (n0 : Nat) (q1 : Nat) (hq1 : isK LX q1 9) (hO : OKc p (rmL 2) s m args meth c LX D cy ad cX10_goOutFrom RX10 6 2 none) (k11 : Int32 → Mem → Option (Mem)) (hk11 : ∀ (x3 : Int32) (M : Mem), BL p l e (rmL 2) s m args below meth c LX D cy ad 6 (QV LX D cy ad) 11 [(0, .ref (ad 18)), (1, .ref (ad q1)), (3, .int x3)] [] M (k11 x3 M)) (x3 : Int32) (M : Mem) : BL p l e (rmL 2) s m args below meth c LX D cy ad 6 (QV LX D cy ad) 11 [(0, .ref (ad 18)), (1, .ref (ad q1)), (3, .int x3)] [] M (bX10_goOutFrom_11 n0 q1 k11 x3 M) := by
  unfold bX10_goOutFrom_11
  refine b_iload_n hO dX10_goOutFrom_11 2 rfl rfl ?_
  refine b_bipush hO dX10_goOutFrom_12 ic_b_60 ?_
  refine b_icmp_gt hO dX10_goOutFrom_14 (tgt := 86) (by decide) ?_ ?_
  · exact b_vret hO dX10_goOutFrom_86
  · refine b_aload_n hO dX10_goOutFrom_17 0 rfl rfl ?_
    refine b_get hO flX10_15 kLX_18 (v := .ref (ad 20)) rfl dX10_goOutFrom_18 ?_
    refine b_iload_n hO dX10_goOutFrom_21 2 rfl rfl ?_
    refine b_iconst hO dX10_goOutFrom_22 ic_i_0 ?_
    refine b_iast hO kLX_20 (n := 61) rfl dX10_goOutFrom_23 ?_
    refine b_bnd (fun M23 => ?_)
    refine b_iconst hO dX10_goOutFrom_24 ic_i_0 ?_
    refine b_istore hO dX10_goOutFrom_25 (by decide) (lv' := [(4, .int _), (0, .ref _), (1, .ref _), (3, .int _)]) rfl ?_
    refine b_sub [1, 2, 3, 0] rfl ?_
    exact tfX10_goOutFrom_27 n0 q1 hq1 hO k11 hk11 _ _ _
theorem lX10_goOutFrom_11 (n0 : Nat) (q1 : Nat) (hq1 : isK LX q1 9) (hO : OKc p (rmL 2) s m args meth c LX D cy ad cX10_goOutFrom RX10 6 2 none) : ∀ (w : Nat) (x3 : Int32) (M : Mem), BL p l e (rmL 2) s m args below meth c LX D cy ad 6 (QV LX D cy ad) 11 [(0, .ref (ad 18)), (1, .ref (ad q1)), (3, .int x3)] [] M (loopN (bX10_goOutFrom_11 n0 q1) (fun _ _ => none) w x3 M) := by
  intro w
  induction w with
  | zero =>
    intros
    exact b_none
  | succ w ih =>
    intro x3 M
    exact tbX10_goOutFrom_11 n0 q1 hq1 hO _ ih x3 M
theorem tfX10_goOutFrom_11 (n0 : Nat) (q1 : Nat) (hq1 : isK LX q1 9) (hO : OKc p (rmL 2) s m args meth c LX D cy ad cX10_goOutFrom RX10 6 2 none) (x3 : Int32) (M : Mem) : BL p l e (rmL 2) s m args below meth c LX D cy ad 6 (QV LX D cy ad) 11 [(0, .ref (ad 18)), (1, .ref (ad q1)), (3, .int x3)] [] M (fX10_goOutFrom_11 n0 q1 x3 M) := lX10_goOutFrom_11 n0 q1 hq1 hO n0 x3 M
theorem tfX10_goOutFrom (n0 : Nat) (q1 : Nat) (hq1 : isK LX q1 9) (hO : OKc p (rmL 2) s m args meth c LX D cy ad cX10_goOutFrom RX10 6 2 none) (x2 : Int32) (M : Mem) : BL p l e (rmL 2) s m args below meth c LX D cy ad 6 (QV LX D cy ad) 0 [(0, .ref (ad 18)), (1, .ref (ad q1)), (2, .int x2)] [] M (fX10_goOutFrom n0 q1 x2 M) := by
  unfold fX10_goOutFrom
  refine b_aload_n hO dX10_goOutFrom_0 0 rfl rfl ?_
  refine b_get hO flX10_15 kLX_18 (v := .ref (ad 20)) rfl dX10_goOutFrom_1 ?_
  refine b_iconst hO dX10_goOutFrom_4 ic_i_0 ?_
  refine b_iconst hO dX10_goOutFrom_5 ic_i_1 ?_
  refine b_iload_n hO dX10_goOutFrom_6 2 rfl rfl ?_
  refine b_ishl hO dX10_goOutFrom_7 ?_
  refine b_iast hO kLX_20 (n := 61) rfl dX10_goOutFrom_8 ?_
  refine b_bnd (fun M8 => ?_)
  refine b_iconst hO dX10_goOutFrom_9 ic_i_1 ?_
  refine b_istore_n hO dX10_goOutFrom_10 rfl (by decide) (lv' := [(3, .int _), (0, .ref _), (1, .ref _), (2, .int _)]) rfl ?_
  refine b_sub [1, 2, 0] rfl ?_
  exact tfX10_goOutFrom_11 n0 q1 hq1 hO _ _
theorem ctX10_goOutFrom (n0 : Nat) (q1 : Nat) (hq1 : isK LX q1 9) (hI : Inj LX ad) (x2 : Int32) (M : Mem) : CT l LX D cy ad yX10_goOutFrom cX10_goOutFrom 6 none 2 (QV LX D cy ad) [.ref (ad 18), .ref (ad q1), .int x2] M (fX10_goOutFrom n0 q1 x2 M) :=
  CT.mk LXok hI (by decide) (Nat.le_of_ble_eq_true rfl) (fun hO => tfX10_goOutFrom n0 q1 hq1 hO x2 M)
/-! X10_canBeAt -/
def fX10_canBeAt (n0 : Nat) (x1 : Int32) (x2 : Int32) (M : Mem) : Option (Int32 × Mem) :=
  if x2 < 0 then
    some ((0 : Int32), M)
  else
    if (60 : Int32) < x2 then
      some ((0 : Int32), M)
    else
      if oob x2 61 then none else
      if (((gA M 20 (Int32.toNatClampNeg x2)) >>> (x1 &&& 31)) &&& (1 : Int32)) = (1 : Int32) then
        some ((1 : Int32), M)
      else
        some ((0 : Int32), M)
theorem tfX10_canBeAt (n0 : Nat) (hO : OKc p (rmL 1) s m args meth c LX D cy ad cX10_canBeAt RX10 3 1 (some .boolean)) (x1 : Int32) (x2 : Int32) (M : Mem) : BL p l e (rmL 1) s m args below meth c LX D cy ad 3 (QI LX D cy ad) 0 [(0, .ref (ad 18)), (1, .int x1), (2, .int x2)] [] M (fX10_canBeAt n0 x1 x2 M) := by
  unfold fX10_canBeAt
  refine b_iload_n hO dX10_canBeAt_0 2 rfl rfl ?_
  refine b_if_lt hO dX10_canBeAt_1 (tgt := 28) (by decide) ?_ ?_
  · refine b_iconst hO dX10_canBeAt_28 ic_i_0 ?_
    exact b_zretc hO (Or.inl rfl) dX10_canBeAt_29
  · refine b_iload_n hO dX10_canBeAt_4 2 rfl rfl ?_
    refine b_bipush hO dX10_canBeAt_5 ic_b_60 ?_
    refine b_icmp_gt hO dX10_canBeAt_7 (tgt := 28) (by decide) ?_ ?_
    · refine b_iconst hO dX10_canBeAt_28 ic_i_0 ?_
      exact b_zretc hO (Or.inl rfl) dX10_canBeAt_29
    · refine b_aload_n hO dX10_canBeAt_10 0 rfl rfl ?_
      refine b_get hO flX10_15 kLX_18 (v := .ref (ad 20)) rfl dX10_canBeAt_11 ?_
      refine b_iload_n hO dX10_canBeAt_14 2 rfl rfl ?_
      refine b_iald hO kLX_20 (n := 61) rfl dX10_canBeAt_15 ?_
      refine b_iload_n hO dX10_canBeAt_16 1 rfl rfl ?_
      refine b_ishr hO dX10_canBeAt_17 ?_
      refine b_iconst hO dX10_canBeAt_18 ic_i_1 ?_
      refine b_iand hO dX10_canBeAt_19 ?_
      refine b_iconst hO dX10_canBeAt_20 ic_i_1 ?_
      refine b_icmp_ne hO dX10_canBeAt_21 (tgt := 28) (by decide) ?_ ?_
      · refine b_iconst hO dX10_canBeAt_28 ic_i_0 ?_
        exact b_zretc hO (Or.inl rfl) dX10_canBeAt_29
      · refine b_iconst hO dX10_canBeAt_24 ic_i_1 ?_
        refine b_goto hO dX10_canBeAt_25 (tgt := 29) (by decide) ?_
        exact b_zretc hO (Or.inr rfl) dX10_canBeAt_29
theorem ctX10_canBeAt (n0 : Nat) (hI : Inj LX ad) (x1 : Int32) (x2 : Int32) (M : Mem) : CT l LX D cy ad yX10_canBeAt cX10_canBeAt 3 (some .boolean) 1 (QI LX D cy ad) [.ref (ad 18), .int x1, .int x2] M (fX10_canBeAt n0 x1 x2 M) :=
  CT.mk LXok hI (by decide) (Nat.le_of_ble_eq_true rfl) (fun hO => tfX10_canBeAt n0 hO x1 x2 M)
end
end
