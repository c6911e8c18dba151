section
variable {p : Program} {l : Launch} {e : Env} {s : State} {m : MethodId} {args : Array Value} {below : List Frame} {meth : Method} {c : Code} {D : va_G} {cy : Nat → ClassId} {ad : Nat → Nat} {dd : Nat}

/-! X7_hasRoomFor -/
def fX7_hasRoomFor (n0 : Nat) (x1 : Int32) (M : Mem) : Option (Int32 × Mem) :=
  if (1600 : Int32) < ((gI M 641) + x1) then
    some ((0 : Int32), M)
  else
    some ((1 : Int32), M)
theorem tfX7_hasRoomFor (n0 : Nat) (hO : OKc p (rmL 1) s m args meth c LX D cy ad cX7_hasRoomFor RX7 2 1 (some .boolean)) (x1 : Int32) (M : Mem) : BL p l e (rmL 1) s m args below meth c LX D cy ad 2 (QI LX D cy ad) 0 [(0, .ref (ad 5)), (1, .int x1)] [] M (fX7_hasRoomFor n0 x1 M) := by
  unfold fX7_hasRoomFor
  refine b_aload_n hO dX7_hasRoomFor_0 0 rfl rfl ?_
  refine b_get hO flX7_15 kLX_5 (v := .int (gI _ 641)) rfl dX7_hasRoomFor_1 ?_
  refine b_iload_n hO dX7_hasRoomFor_4 1 rfl rfl ?_
  refine b_iadd hO dX7_hasRoomFor_5 ?_
  refine b_sipush hO dX7_hasRoomFor_6 ic_s_1600 ?_
  refine b_icmp_gt hO dX7_hasRoomFor_9 (tgt := 16) (by decide) ?_ ?_
  · refine b_iconst hO dX7_hasRoomFor_16 ic_i_0 ?_
    exact b_zretc hO (Or.inl rfl) dX7_hasRoomFor_17
  · refine b_iconst hO dX7_hasRoomFor_12 ic_i_1 ?_
    refine b_goto hO dX7_hasRoomFor_13 (tgt := 17) (by decide) ?_
    exact b_zretc hO (Or.inr rfl) dX7_hasRoomFor_17
theorem ctX7_hasRoomFor (n0 : Nat) (hI : Inj LX ad) (x1 : Int32) (M : Mem) : CT l LX D cy ad yX7_hasRoomFor cX7_hasRoomFor 2 (some .boolean) 1 (QI LX D cy ad) [.ref (ad 5), .int x1] M (fX7_hasRoomFor n0 x1 M) :=
  CT.mk LXok hI (by decide) (Nat.le_of_ble_eq_true rfl) (fun hO => tfX7_hasRoomFor n0 hO x1 M)
/-! X7_addNumber -/
def fX7_addNumber_43 (n0 : Nat) (k3 : Int32 → Int32 → Mem → Option (Mem)) (x1 : Int32) (x2 : Int32) (M : Mem) : Option (Mem) :=
  k3 x1 (x2 + (-8 : Int32)) M
def bX7_addNumber_3 (n0 : Nat) (k3 : Int32 → Int32 → Mem → Option (Mem)) (x1 : Int32) (x2 : Int32) (M : Mem) : Option (Mem) :=
  if x2 < 0 then
    some M
  else
    if (1600 : Int32) ≤ (gI M 641) then
      fX7_addNumber_43 n0 k3 x1 x2 M
    else
      if oob (gI M 641) 1600 then none else
      bnd (sA M 6 (Int32.toNatClampNeg (gI M 641)) ((x1 >>> (x2 &&& 31)) &&& (255 : Int32))) fun M32 =>
      fX7_addNumber_43 n0 k3 x1 x2 (sI M32 641 ((gI M32 641) + (1 : Int32)))
def fX7_addNumber_3 (n0 : Nat) : Int32 → Int32 → Mem → Option (Mem) := loopN (bX7_addNumber_3 n0) (fun _ _ _ => none) n0
def fX7_addNumber (n0 : Nat) (x1 : Int32) (M : Mem) : Option (Mem) :=
  fX7_addNumber_3 n0 x1 (24 : Int32) M
theorem tfX7_addNumber_43 (n0 : Nat) (hO : OKc p (rmL 1) s m args meth c LX D cy ad cX7_addNumber RX7 3 1 none) (k3 : Int32 → Int32 → Mem → Option (Mem)) (hk3 : ∀ (x1 : Int32) (x2 : Int32) (M : Mem), BL p l e (rmL 1) s m args below meth c LX D cy ad 3 (QV LX D cy ad) 3 [(0, .ref (ad 5)), (1, .int x1), (2, .int x2)] [] M (k3 x1 x2 M)) (x1 : Int32) (x2 : Int32) (M : Mem) : BL p l e (rmL 1) s m args below meth c LX D cy ad 3 (QV LX D cy ad) 43 [(0, .ref (ad 5)), (1, .int x1), (2, .int x2)] [] M (fX7_addNumber_43 n0 k3 x1 x2 M) := by
  unfold fX7_addNumber_43
  refine b_iinc hO dX7_addNumber_43 2 rfl ic_i_m8 (by decide) (lv' := [(2, .int _), (0, .ref _), (1, .int _)]) rfl ?_
  refine b_goto hO dX7_addNumber_46 (tgt := 3) (by decide) ?_
  refine b_sub [1, 2, 0] rfl ?_
  exact hk3 _ _ _
theorem tbX7_addNumber_3 (n0 : Nat) (hO : OKc p (rmL 1) s m args meth c LX D cy ad cX7_addNumber RX7 3 1 none) (k3 : Int32 → Int32 → Mem → Option (Mem)) (hk3 : ∀ (x1 : Int32) (x2 : Int32) (M : Mem), BL p l e (rmL 1) s m args below meth c LX D cy ad 3 (QV LX D cy ad) 3 [(0, .ref (ad 5)), (1, .int x1), (2, .int x2)] [] M (k3 x1 x2 M)) (x1 : Int32) (x2 : Int32) (M : Mem) : BL p l e (rmL 1) s m args below meth c LX D cy ad 3 (QV LX D cy ad) 3 [(0, .ref (ad 5)), (1, .int x1), (2, .int x2)] [] M (bX7_addNumber_3 n0 k3 x1 x2 M) := by
  unfold bX7_addNumber_3
  refine b_iload_n hO dX7_addNumber_3 2 rfl rfl ?_
  refine b_if_lt hO dX7_addNumber_4 (tgt := 49) (by decide) ?_ ?_
  · exact b_vret hO dX7_addNumber_49
  · refine b_aload_n hO dX7_addNumber_7 0 rfl rfl ?_
    refine b_get hO flX7_15 kLX_5 (v := .int (gI _ 641)) rfl dX7_addNumber_8 ?_
    refine b_sipush hO dX7_addNumber_11 ic_s_1600 ?_
    refine b_icmp_ge hO dX7_addNumber_14 (tgt := 43) (by decide) ?_ ?_
    · exact tfX7_addNumber_43 n0 hO k3 hk3 _ _ _
    · refine b_aload_n hO dX7_addNumber_17 0 rfl rfl ?_
      refine b_get hO flX7_9 kLX_5 (v := .ref (ad 6)) rfl dX7_addNumber_18 ?_
      refine b_aload_n hO dX7_addNumber_21 0 rfl rfl ?_
      refine b_get hO flX7_15 kLX_5 (v := .int (gI _ 641)) rfl dX7_addNumber_22 ?_
      refine b_iload_n hO dX7_addNumber_25 1 rfl rfl ?_
      refine b_iload_n hO dX7_addNumber_26 2 rfl rfl ?_
      refine b_ishr hO dX7_addNumber_27 ?_
      refine b_sipush hO dX7_addNumber_28 ic_s_255 ?_
      refine b_iand hO dX7_addNumber_31 ?_
      refine b_iast hO kLX_6 (n := 1600) rfl dX7_addNumber_32 ?_
      refine b_bnd (fun M32 => ?_)
      refine b_aload_n hO dX7_addNumber_33 0 rfl rfl ?_
      refine b_dup hO dX7_addNumber_34 rfl ?_
      refine b_get hO flX7_15 kLX_5 (v := .int (gI _ 641)) rfl dX7_addNumber_35 ?_
      refine b_iconst hO dX7_addNumber_38 ic_i_1 ?_
      refine b_iadd hO dX7_addNumber_39 ?_
      refine b_putI hO flX7_15 kLX_5 rfl rfl rfl (id := 641) rfl dX7_addNumber_40 ?_
      exact tfX7_addNumber_43 n0 hO k3 hk3 _ _ _
theorem lX7_addNumber_3 (n0 : Nat) (hO : OKc p (rmL 1) s m args meth c LX D cy ad cX7_addNumber RX7 3 1 none) : ∀ (w : Nat) (x1 : Int32) (x2 : Int32) (M : Mem), BL p l e (rmL 1) s m args below meth c LX D cy ad 3 (QV LX D cy ad) 3 [(0, .ref (ad 5)), (1, .int x1), (2, .int x2)] [] M (loopN (bX7_addNumber_3 n0) (fun _ _ _ => none) w x1 x2 M) := by
  intro w
  induction w with
  | zero =>
    intros
    exact b_none
  | succ w ih =>
    intro x1 x2 M
    exact tbX7_addNumber_3 n0 hO _ ih x1 x2 M
theorem tfX7_addNumber_3 (n0 : Nat) (hO : OKc p (rmL 1) s m args meth c LX D cy ad cX7_addNumber RX7 3 1 none) (x1 : Int32) (x2 : Int32) (M : Mem) : BL p l e (rmL 1) s m args below meth c LX D cy ad 3 (QV LX D cy ad) 3 [(0, .ref (ad 5)), (1, .int x1), (2, .int x2)] [] M (fX7_addNumber_3 n0 x1 x2 M) := lX7_addNumber_3 n0 hO n0 x1 x2 M
theorem tfX7_addNumber (n0 : Nat) (hO : OKc p (rmL 1) s m args meth c LX D cy ad cX7_addNumber RX7 3 1 none) (x1 : Int32) (M : Mem) : BL p l e (rmL 1) s m args below meth c LX D cy ad 3 (QV LX D cy ad) 0 [(0, .ref (ad 5)), (1, .int x1)] [] M (fX7_addNumber n0 x1 M) := by
  unfold fX7_addNumber
  refine b_bipush hO dX7_addNumber_0 ic_b_24 ?_
  refine b_istore_n hO dX7_addNumber_2 rfl (by decide) (lv' := [(2, .int _), (0, .ref _), (1, .int _)]) rfl ?_
  refine b_sub [1, 2, 0] rfl ?_
  exact tfX7_addNumber_3 n0 hO _ _ _
theorem ctX7_addNumber (n0 : Nat) (hI : Inj LX ad) (x1 : Int32) (M : Mem) : CT l LX D cy ad yX7_addNumber cX7_addNumber 3 none 1 (QV LX D cy ad) [.ref (ad 5), .int x1] M (fX7_addNumber n0 x1 M) :=
  CT.mk LXok hI (by decide) (Nat.le_of_ble_eq_true rfl) (fun hO => tfX7_addNumber n0 hO x1 M)
/-! X7_at -/
def fX7_at (n0 : Nat) (x1 : Int32) (M : Mem) : Option (Int32 × Mem) :=
  if x1 < 0 then
    some ((-1 : Int32), M)
  else
    if (gI M 641) ≤ x1 then
      some ((-1 : Int32), M)
    else
      if oob x1 1600 then none else
      some ((gA M 6 (Int32.toNatClampNeg x1)), M)
theorem tfX7_at (n0 : Nat) (hO : OKc p (rmL 1) s m args meth c LX D cy ad cX7_at RX7 2 1 (some .int)) (x1 : Int32) (M : Mem) : BL p l e (rmL 1) s m args below meth c LX D cy ad 2 (QI LX D cy ad) 0 [(0, .ref (ad 5)), (1, .int x1)] [] M (fX7_at n0 x1 M) := by
  unfold fX7_at
  refine b_iload_n hO dX7_at_0 1 rfl rfl ?_
  refine b_if_lt hO dX7_at_1 (tgt := 21) (by decide) ?_ ?_
  · refine b_iconst hO dX7_at_21 ic_i_m1 ?_
    exact b_iret hO dX7_at_22
  · refine b_iload_n hO dX7_at_4 1 rfl rfl ?_
    refine b_aload_n hO dX7_at_5 0 rfl rfl ?_
    refine b_get hO flX7_15 kLX_5 (v := .int (gI _ 641)) rfl dX7_at_6 ?_
    refine b_icmp_ge hO dX7_at_9 (tgt := 21) (by decide) ?_ ?_
    · refine b_iconst hO dX7_at_21 ic_i_m1 ?_
      exact b_iret hO dX7_at_22
    · refine b_aload_n hO dX7_at_12 0 rfl rfl ?_
      refine b_get hO flX7_9 kLX_5 (v := .ref (ad 6)) rfl dX7_at_13 ?_
      refine b_iload_n hO dX7_at_16 1 rfl rfl ?_
      refine b_iald hO kLX_6 (n := 1600) rfl dX7_at_17 ?_
      refine b_goto hO dX7_at_18 (tgt := 22) (by decide) ?_
      exact b_iret hO dX7_at_22
theorem ctX7_at (n0 : Nat) (hI : Inj LX ad) (x1 : Int32) (M : Mem) : CT l LX D cy ad yX7_at cX7_at 2 (some .int) 1 (QI LX D cy ad) [.ref (ad 5), .int x1] M (fX7_at n0 x1 M) :=
  CT.mk LXok hI (by decide) (Nat.le_of_ble_eq_true rfl) (fun hO => tfX7_at n0 hO x1 M)
/-! X7_pairAt -/
def fX7_pairAt (n0 : Nat) (x1 : Int32) (M : Mem) : Option (Int32 × Mem) :=
  (fX7_at n0 x1 M).bind fun z5 =>
  (fX7_at n0 (x1 + (1 : Int32)) z5.2).bind fun z13 =>
  some ((((256 : Int32) * z5.1) + z13.1), z13.2)
theorem tfX7_pairAt (n0 : Nat) (hO : OKc p (rmL 2) s m args meth c LX D cy ad cX7_pairAt RX7 2 2 (some .int)) (x1 : Int32) (M : Mem) : BL p l e (rmL 2) s m args below meth c LX D cy ad 2 (QI LX D cy ad) 0 [(0, .ref (ad 5)), (1, .int x1)] [] M (fX7_pairAt n0 x1 M) := by
  unfold fX7_pairAt
  refine b_sipush hO dX7_pairAt_0 ic_s_256 ?_
  refine b_aload_n hO dX7_pairAt_3 0 rfl rfl ?_
  refine b_iload_n hO dX7_pairAt_4 1 rfl rfl ?_
  refine b_callVI hO mdX7_at mvX7_at w1225 (ci := 7) rfl rfl (by decide) kLX_5 (As := [.int _]) (st := [.int _]) (ctX7_at n0 hO.2.2.2.2.2.2.1 _ _) (Nat.le_of_ble_eq_true rfl) rfl rfl (Nat.le_of_ble_eq_true rfl) dX7_pairAt_5 (fun z5 => ?_)
  refine b_imul hO dX7_pairAt_8 ?_
  refine b_aload_n hO dX7_pairAt_9 0 rfl rfl ?_
  refine b_iload_n hO dX7_pairAt_10 1 rfl rfl ?_
  refine b_iconst hO dX7_pairAt_11 ic_i_1 ?_
  refine b_iadd hO dX7_pairAt_12 ?_
  refine b_callVI hO mdX7_at mvX7_at w1225 (ci := 7) rfl rfl (by decide) kLX_5 (As := [.int _]) (st := [.int _]) (ctX7_at n0 hO.2.2.2.2.2.2.1 _ _) (Nat.le_of_ble_eq_true rfl) rfl rfl (Nat.le_of_ble_eq_true rfl) dX7_pairAt_13 (fun z13 => ?_)
  refine b_iadd hO dX7_pairAt_16 ?_
  exact b_iret hO dX7_pairAt_17
theorem ctX7_pairAt (n0 : Nat) (hI : Inj LX ad) (x1 : Int32) (M : Mem) : CT l LX D cy ad yX7_pairAt cX7_pairAt 2 (some .int) 2 (QI LX D cy ad) [.ref (ad 5), .int x1] M (fX7_pairAt n0 x1 M) :=
  CT.mk LXok hI (by decide) (Nat.le_of_ble_eq_true rfl) (fun hO => tfX7_pairAt n0 hO x1 M)
end
