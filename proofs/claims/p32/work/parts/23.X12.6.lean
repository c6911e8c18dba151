section
variable {p : Program} {l : Launch} {e : Env} {s : State} {m : MethodId} {args : Array Value} {below : List Frame} {meth : Method} {c : Code} {D : va_G} {cy : Nat → ClassId} {ad : Nat → Nat} {dd : Nat}

/-! X12_alike -/
def bX12_alike_31 (n0 : Nat) (k31 : Int32 → Int32 → Int32 → Mem → Option (Int32 × Mem)) (x1 : Int32) (x2 : Int32) (x3 : Int32) (M : Mem) : Option (Int32 × Mem) :=
  (fX12_isAhead n0 x3 (0 : Int32) (60 : Int32) M).bind fun z36 =>
  if z36.1 = 0 then
    some ((-1 : Int32), z36.2)
  else
    (fX12_hour n0 (1 : Int32) x1 z36.2).bind fun z45 =>
    (fX12_hour n0 (1 : Int32) x2 z45.2).bind fun z51 =>
    if z45.1 = z51.1 then
      some (x3, z51.2)
    else
      (fX12_passes n0 (1 : Int32) z51.2).bind fun z61 =>
      k31 x1 x2 (x3 + (1 : Int32)) z61.2
def fX12_alike_31 (n0 : Nat) : Int32 → Int32 → Int32 → Mem → Option (Int32 × Mem) := loopN (bX12_alike_31 n0) (fun _ _ _ _ => none) n0
def fX12_alike (n0 : Nat) (x1 : Int32) (x2 : Int32) (M : Mem) : Option (Int32 × Mem) :=
  (fX12_isCorner n0 x1 M).bind fun z2 =>
  if z2.1 = 0 then
    some ((-1 : Int32), z2.2)
  else
    (fX12_isCorner n0 x2 z2.2).bind fun z10 =>
    if z10.1 = 0 then
      some ((-1 : Int32), z10.2)
    else
      if x1 = x2 then
        some ((-1 : Int32), z10.2)
      else
        (fX12_copies n0 (1 : Int32) (0 : Int32) z10.2).bind fun z26 =>
        fX12_alike_31 n0 x1 x2 (0 : Int32) z26
theorem tbX12_alike_31 (n0 : Nat) (hO : OKc p (rmL 7) s m args meth c LY D cy ad cX12_alike RX12 4 7 (some .int)) (k31 : Int32 → Int32 → Int32 → Mem → Option (Int32 × Mem)) (hk31 : ∀ (x1 : Int32) (x2 : Int32) (x3 : Int32) (M : Mem), BL p l e (rmL 7) s m args below meth c LY D cy ad 4 (QI LY D cy ad) 31 [(0, .ref (ad 0)), (1, .int x1), (2, .int x2), (3, .int x3)] [] M (k31 x1 x2 x3 M)) (x1 : Int32) (x2 : Int32) (x3 : Int32) (M : Mem) : BL p l e (rmL 7) s m args below meth c LY D cy ad 4 (QI LY D cy ad) 31 [(0, .ref (ad 0)), (1, .int x1), (2, .int x2), (3, .int x3)] [] M (bX12_alike_31 n0 k31 x1 x2 x3 M) := by
  unfold bX12_alike_31
  refine b_aload_n hO dX12_alike_31 0 rfl rfl ?_
  refine b_iload_n hO dX12_alike_32 3 rfl rfl ?_
  refine b_iconst hO dX12_alike_33 ic_i_0 ?_
  refine b_bipush hO dX12_alike_34 ic_b_60 ?_
  refine b_callVI hO mdX12_isAhead mvX12_isAhead w1749 (ci := 12) rfl rfl (by decide) kLY_0 (As := [.int _, .int _, .int _]) (st := []) (ctX12_isAhead n0 hO.2.2.2.2.2.2.1 _ _ _ _) (Nat.le_of_ble_eq_true rfl) rfl rfl (Nat.le_of_ble_eq_true rfl) dX12_alike_36 (fun z36 => ?_)
  refine b_if_eq hO dX12_alike_39 (tgt := 71) (by decide) ?_ ?_
  · refine b_iconst hO dX12_alike_71 ic_i_m1 ?_
    exact b_iret hO dX12_alike_72
  · refine b_aload_n hO dX12_alike_42 0 rfl rfl ?_
    refine b_iconst hO dX12_alike_43 ic_i_1 ?_
    refine b_iload_n hO dX12_alike_44 1 rfl rfl ?_
    refine b_callVI hO mdX12_hour mvX12_hour w1657 (ci := 12) rfl rfl (by decide) kLY_0 (As := [.int _, .int _]) (st := []) (ctX12_hour n0 hO.2.2.2.2.2.2.1 _ _ _) (Nat.le_of_ble_eq_true rfl) rfl rfl (Nat.le_of_ble_eq_true rfl) dX12_alike_45 (fun z45 => ?_)
    refine b_aload_n hO dX12_alike_48 0 rfl rfl ?_
    refine b_iconst hO dX12_alike_49 ic_i_1 ?_
    refine b_iload_n hO dX12_alike_50 2 rfl rfl ?_
    refine b_callVI hO mdX12_hour mvX12_hour w1657 (ci := 12) rfl rfl (by decide) kLY_0 (As := [.int _, .int _]) (st := [.int _]) (ctX12_hour n0 hO.2.2.2.2.2.2.1 _ _ _) (Nat.le_of_ble_eq_true rfl) rfl rfl (Nat.le_of_ble_eq_true rfl) dX12_alike_51 (fun z51 => ?_)
    refine b_icmp_ne hO dX12_alike_54 (tgt := 59) (by decide) ?_ ?_
    · refine b_aload_n hO dX12_alike_59 0 rfl rfl ?_
      refine b_iconst hO dX12_alike_60 ic_i_1 ?_
      refine b_callVI hO mdX12_passes mvX12_passes w1753 (ci := 12) rfl rfl (by decide) kLY_0 (As := [.int _]) (st := []) (ctX12_passes n0 hO.2.2.2.2.2.2.1 _ _) (Nat.le_of_ble_eq_true rfl) rfl rfl (Nat.le_of_ble_eq_true rfl) dX12_alike_61 (fun z61 => ?_)
      refine b_pop hO dX12_alike_64 rfl ?_
      refine b_iinc hO dX12_alike_65 3 rfl ic_i_1 (by decide) (lv' := [(3, .int _), (0, .ref _), (1, .int _), (2, .int _)]) rfl ?_
      refine b_goto hO dX12_alike_68 (tgt := 31) (by decide) ?_
      refine b_sub [1, 2, 3, 0] rfl ?_
      exact hk31 _ _ _ _
    · refine b_iload_n hO dX12_alike_57 3 rfl rfl ?_
      exact b_iret hO dX12_alike_58
theorem lX12_alike_31 (n0 : Nat) (hO : OKc p (rmL 7) s m args meth c LY D cy ad cX12_alike RX12 4 7 (some .int)) : ∀ (w : Nat) (x1 : Int32) (x2 : Int32) (x3 : Int32) (M : Mem), BL p l e (rmL 7) s m args below meth c LY D cy ad 4 (QI LY D cy ad) 31 [(0, .ref (ad 0)), (1, .int x1), (2, .int x2), (3, .int x3)] [] M (loopN (bX12_alike_31 n0) (fun _ _ _ _ => none) w x1 x2 x3 M) := by
  intro w
  induction w with
  | zero =>
    intros
    exact b_none
  | succ w ih =>
    intro x1 x2 x3 M
    exact tbX12_alike_31 n0 hO _ ih x1 x2 x3 M
theorem tfX12_alike_31 (n0 : Nat) (hO : OKc p (rmL 7) s m args meth c LY D cy ad cX12_alike RX12 4 7 (some .int)) (x1 : Int32) (x2 : Int32) (x3 : Int32) (M : Mem) : BL p l e (rmL 7) s m args below meth c LY D cy ad 4 (QI LY D cy ad) 31 [(0, .ref (ad 0)), (1, .int x1), (2, .int x2), (3, .int x3)] [] M (fX12_alike_31 n0 x1 x2 x3 M) := lX12_alike_31 n0 hO n0 x1 x2 x3 M
theorem tfX12_alike (n0 : Nat) (hO : OKc p (rmL 7) s m args meth c LY D cy ad cX12_alike RX12 4 7 (some .int)) (x1 : Int32) (x2 : Int32) (M : Mem) : BL p l e (rmL 7) s m args below meth c LY D cy ad 4 (QI LY D cy ad) 0 [(0, .ref (ad 0)), (1, .int x1), (2, .int x2)] [] M (fX12_alike n0 x1 x2 M) := by
  unfold fX12_alike
  refine b_aload_n hO dX12_alike_0 0 rfl rfl ?_
  refine b_iload_n hO dX12_alike_1 1 rfl rfl ?_
  refine b_callVI hO mdX12_isCorner mvX12_isCorner w1733 (ci := 12) rfl rfl (by decide) kLY_0 (As := [.int _]) (st := []) (ctX12_isCorner n0 hO.2.2.2.2.2.2.1 _ _) (Nat.le_of_ble_eq_true rfl) rfl rfl (Nat.le_of_ble_eq_true rfl) dX12_alike_2 (fun z2 => ?_)
  refine b_if_eq hO dX12_alike_5 (tgt := 21) (by decide) ?_ ?_
  · refine b_iconst hO dX12_alike_21 ic_i_m1 ?_
    exact b_iret hO dX12_alike_22
  · refine b_aload_n hO dX12_alike_8 0 rfl rfl ?_
    refine b_iload_n hO dX12_alike_9 2 rfl rfl ?_
    refine b_callVI hO mdX12_isCorner mvX12_isCorner w1733 (ci := 12) rfl rfl (by decide) kLY_0 (As := [.int _]) (st := []) (ctX12_isCorner n0 hO.2.2.2.2.2.2.1 _ _) (Nat.le_of_ble_eq_true rfl) rfl rfl (Nat.le_of_ble_eq_true rfl) dX12_alike_10 (fun z10 => ?_)
    refine b_if_eq hO dX12_alike_13 (tgt := 21) (by decide) ?_ ?_
    · refine b_iconst hO dX12_alike_21 ic_i_m1 ?_
      exact b_iret hO dX12_alike_22
    · refine b_iload_n hO dX12_alike_16 1 rfl rfl ?_
      refine b_iload_n hO dX12_alike_17 2 rfl rfl ?_
      refine b_icmp_ne hO dX12_alike_18 (tgt := 23) (by decide) ?_ ?_
      · refine b_aload_n hO dX12_alike_23 0 rfl rfl ?_
        refine b_iconst hO dX12_alike_24 ic_i_1 ?_
        refine b_iconst hO dX12_alike_25 ic_i_0 ?_
        refine b_callVV hO mdX12_copies mvX12_copies w1705 (ci := 12) rfl rfl (by decide) kLY_0 (As := [.int _, .int _]) (st := []) (ctX12_copies n0 hO.2.2.2.2.2.2.1 _ _ _) (Nat.le_of_ble_eq_true rfl) rfl rfl (Nat.le_of_ble_eq_true rfl) dX12_alike_26 (fun z26 => ?_)
        refine b_iconst hO dX12_alike_29 ic_i_0 ?_
        refine b_istore_n hO dX12_alike_30 rfl (by decide) (lv' := [(3, .int _), (0, .ref _), (1, .int _), (2, .int _)]) rfl ?_
        refine b_sub [1, 2, 3, 0] rfl ?_
        exact tfX12_alike_31 n0 hO _ _ _ _
      · refine b_iconst hO dX12_alike_21 ic_i_m1 ?_
        exact b_iret hO dX12_alike_22
theorem ctX12_alike (n0 : Nat) (hI : Inj LY ad) (x1 : Int32) (x2 : Int32) (M : Mem) : CT l LY D cy ad yX12_alike cX12_alike 4 (some .int) 7 (QI LY D cy ad) [.ref (ad 0), .int x1, .int x2] M (fX12_alike n0 x1 x2 M) :=
  CT.mk LYok hI (by decide) (Nat.le_of_ble_eq_true rfl) (fun hO => tfX12_alike n0 hO x1 x2 M)
/-! X12_isDoneBy -/
def fX12_isDoneBy_43 (n0 : Nat) (k8 : Int32 → Int32 → Int32 → Mem → Option (Int32 × Mem)) (x1 : Int32) (x2 : Int32) (x3 : Int32) (M : Mem) : Option (Int32 × Mem) :=
  k8 x1 x2 (x3 + (1 : Int32)) M
def bX12_isDoneBy_57 (n0 : Nat) (k57 : Int32 → Int32 → Int32 → Mem → Option (Int32 × Mem)) (x1 : Int32) (x2 : Int32) (x3 : Int32) (M : Mem) : Option (Int32 × Mem) :=
  if x2 ≤ x3 then
    if oob (1 : Int32) 22 then none else
    if (x1 &&& ((gA M 31 (Int32.toNatClampNeg (1 : Int32))) ^^^ (-1 : Int32))) = 0 then
      some ((1 : Int32), M)
    else
      some ((0 : Int32), M)
  else
    (fX12_passes n0 (1 : Int32) M).bind fun z64 =>
    k57 x1 x2 (x3 + (1 : Int32)) z64.2
def fX12_isDoneBy_57 (n0 : Nat) : Int32 → Int32 → Int32 → Mem → Option (Int32 × Mem) := loopN (bX12_isDoneBy_57 n0) (fun _ _ _ _ => none) n0
def bX12_isDoneBy_8 (n0 : Nat) (k8 : Int32 → Int32 → Int32 → Mem → Option (Int32 × Mem)) (x1 : Int32) (x2 : Int32) (x3 : Int32) (M : Mem) : Option (Int32 × Mem) :=
  if oob (gI M 13) 2 then none else
  if (gA M 5 (Int32.toNatClampNeg (gI M 13))) ≤ x3 then
    (fX12_finishesDoings n0 (1 : Int32) M).bind fun z51 =>
    fX12_isDoneBy_57 n0 x1 x2 (0 : Int32) z51.2
  else
    if oob x3 5 then none else
    if (gA M 36 (Int32.toNatClampNeg x3)) = (-1 : Int32) then
      fX12_isDoneBy_43 n0 k8 x1 x2 x3 M
    else
      if oob x3 5 then none else
      (fX12_puts n0 (1 : Int32) x3 (gA M 36 (Int32.toNatClampNeg x3)) M).bind fun z40 =>
      fX12_isDoneBy_43 n0 k8 x1 x2 x3 z40
def fX12_isDoneBy_8 (n0 : Nat) : Int32 → Int32 → Int32 → Mem → Option (Int32 × Mem) := loopN (bX12_isDoneBy_8 n0) (fun _ _ _ _ => none) n0
def fX12_isDoneBy (n0 : Nat) (x1 : Int32) (x2 : Int32) (M : Mem) : Option (Int32 × Mem) :=
  (fX12_copies n0 (1 : Int32) (0 : Int32) M).bind fun z3 =>
  fX12_isDoneBy_8 n0 x1 x2 (0 : Int32) z3
theorem tfX12_isDoneBy_43 (n0 : Nat) (hO : OKc p (rmL 7) s m args meth c LY D cy ad cX12_isDoneBy RX12 4 7 (some .boolean)) (k8 : Int32 → Int32 → Int32 → Mem → Option (Int32 × Mem)) (hk8 : ∀ (x1 : Int32) (x2 : Int32) (x3 : Int32) (M : Mem), BL p l e (rmL 7) s m args below meth c LY D cy ad 4 (QI LY D cy ad) 8 [(0, .ref (ad 0)), (1, .int x1), (2, .int x2), (3, .int x3)] [] M (k8 x1 x2 x3 M)) (x1 : Int32) (x2 : Int32) (x3 : Int32) (M : Mem) : BL p l e (rmL 7) s m args below meth c LY D cy ad 4 (QI LY D cy ad) 43 [(0, .ref (ad 0)), (1, .int x1), (2, .int x2), (3, .int x3)] [] M (fX12_isDoneBy_43 n0 k8 x1 x2 x3 M) := by
  unfold fX12_isDoneBy_43
  refine b_iinc hO dX12_isDoneBy_43 3 rfl ic_i_1 (by decide) (lv' := [(3, .int _), (0, .ref _), (1, .int _), (2, .int _)]) rfl ?_
  refine b_goto hO dX12_isDoneBy_46 (tgt := 8) (by decide) ?_
  refine b_sub [1, 2, 3, 0] rfl ?_
  exact hk8 _ _ _ _
theorem tbX12_isDoneBy_57 (n0 : Nat) (hO : OKc p (rmL 7) s m args meth c LY D cy ad cX12_isDoneBy RX12 4 7 (some .boolean)) (k57 : Int32 → Int32 → Int32 → Mem → Option (Int32 × Mem)) (hk57 : ∀ (x1 : Int32) (x2 : Int32) (x3 : Int32) (M : Mem), BL p l e (rmL 7) s m args below meth c LY D cy ad 4 (QI LY D cy ad) 57 [(0, .ref (ad 0)), (1, .int x1), (2, .int x2), (3, .int x3)] [] M (k57 x1 x2 x3 M)) (x1 : Int32) (x2 : Int32) (x3 : Int32) (M : Mem) : BL p l e (rmL 7) s m args below meth c LY D cy ad 4 (QI LY D cy ad) 57 [(0, .ref (ad 0)), (1, .int x1), (2, .int x2), (3, .int x3)] [] M (bX12_isDoneBy_57 n0 k57 x1 x2 x3 M) := by
  unfold bX12_isDoneBy_57
  refine b_iload_n hO dX12_isDoneBy_57 3 rfl rfl ?_
  refine b_iload_n hO dX12_isDoneBy_58 2 rfl rfl ?_
  refine b_icmp_ge hO dX12_isDoneBy_59 (tgt := 74) (by decide) ?_ ?_
  · refine b_iload_n hO dX12_isDoneBy_74 1 rfl rfl ?_
    refine b_aload_n hO dX12_isDoneBy_75 0 rfl rfl ?_
    refine b_get hO flX12_165 kLY_0 (v := .ref (ad 31)) rfl dX12_isDoneBy_76 ?_
    refine b_iconst hO dX12_isDoneBy_79 ic_i_1 ?_
    refine b_iald hO kLY_31 (n := 22) rfl dX12_isDoneBy_80 ?_
    refine b_iconst hO dX12_isDoneBy_81 ic_i_m1 ?_
    refine b_ixor hO dX12_isDoneBy_82 ?_
    refine b_iand hO dX12_isDoneBy_83 ?_
    refine b_if_ne hO dX12_isDoneBy_84 (tgt := 91) (by decide) ?_ ?_
    · refine b_iconst hO dX12_isDoneBy_91 ic_i_0 ?_
      exact b_zretc hO (Or.inl rfl) dX12_isDoneBy_92
    · refine b_iconst hO dX12_isDoneBy_87 ic_i_1 ?_
      refine b_goto hO dX12_isDoneBy_88 (tgt := 92) (by decide) ?_
      exact b_zretc hO (Or.inr rfl) dX12_isDoneBy_92
  · refine b_aload_n hO dX12_isDoneBy_62 0 rfl rfl ?_
    refine b_iconst hO dX12_isDoneBy_63 ic_i_1 ?_
    refine b_callVI hO mdX12_passes mvX12_passes w1753 (ci := 12) rfl rfl (by decide) kLY_0 (As := [.int _]) (st := []) (ctX12_passes n0 hO.2.2.2.2.2.2.1 _ _) (Nat.le_of_ble_eq_true rfl) rfl rfl (Nat.le_of_ble_eq_true rfl) dX12_isDoneBy_64 (fun z64 => ?_)
    refine b_pop hO dX12_isDoneBy_67 rfl ?_
    refine b_iinc hO dX12_isDoneBy_68 3 rfl ic_i_1 (by decide) (lv' := [(3, .int _), (0, .ref _), (1, .int _), (2, .int _)]) rfl ?_
    refine b_goto hO dX12_isDoneBy_71 (tgt := 57) (by decide) ?_
    refine b_sub [1, 2, 3, 0] rfl ?_
    exact hk57 _ _ _ _
theorem lX12_isDoneBy_57 (n0 : Nat) (hO : OKc p (rmL 7) s m args meth c LY D cy ad cX12_isDoneBy RX12 4 7 (some .boolean)) : ∀ (w : Nat) (x1 : Int32) (x2 : Int32) (x3 : Int32) (M : Mem), BL p l e (rmL 7) s m args below meth c LY D cy ad 4 (QI LY D cy ad) 57 [(0, .ref (ad 0)), (1, .int x1), (2, .int x2), (3, .int x3)] [] M (loopN (bX12_isDoneBy_57 n0) (fun _ _ _ _ => none) w x1 x2 x3 M) := by
  intro w
  induction w with
  | zero =>
    intros
    exact b_none
  | succ w ih =>
    intro x1 x2 x3 M
    exact tbX12_isDoneBy_57 n0 hO _ ih x1 x2 x3 M
theorem tfX12_isDoneBy_57 (n0 : Nat) (hO : OKc p (rmL 7) s m args meth c LY D cy ad cX12_isDoneBy RX12 4 7 (some .boolean)) (x1 : Int32) (x2 : Int32) (x3 : Int32) (M : Mem) : BL p l e (rmL 7) s m args below meth c LY D cy ad 4 (QI LY D cy ad) 57 [(0, .ref (ad 0)), (1, .int x1), (2, .int x2), (3, .int x3)] [] M (fX12_isDoneBy_57 n0 x1 x2 x3 M) := lX12_isDoneBy_57 n0 hO n0 x1 x2 x3 M
theorem tbX12_isDoneBy_8 (n0 : Nat) (hO : OKc p (rmL 7) s m args meth c LY D cy ad cX12_isDoneBy RX12 4 7 (some .boolean)) (k8 : Int32 → Int32 → Int32 → Mem → Option (Int32 × Mem)) (hk8 : ∀ (x1 : Int32) (x2 : Int32) (x3 : Int32) (M : Mem), BL p l e (rmL 7) s m args below meth c LY D cy ad 4 (QI LY D cy ad) 8 [(0, .ref (ad 0)), (1, .int x1), (2, .int x2), (3, .int x3)] [] M (k8 x1 x2 x3 M)) (x1 : Int32) (x2 : Int32) (x3 : Int32) (M : Mem) : BL p l e (rmL 7) s m args below meth c LY D cy ad 4 (QI LY D cy ad) 8 [(0, .ref (ad 0)), (1, .int x1), (2, .int x2), (3, .int x3)] [] M (bX12_isDoneBy_8 n0 k8 x1 x2 x3 M) := by
  unfold bX12_isDoneBy_8
  refine b_iload_n hO dX12_isDoneBy_8 3 rfl rfl ?_
  refine b_aload_n hO dX12_isDoneBy_9 0 rfl rfl ?_
  refine b_get hO flX12_63 kLY_0 (v := .ref (ad 5)) rfl dX12_isDoneBy_10 ?_
  refine b_aload_n hO dX12_isDoneBy_13 0 rfl rfl ?_
  refine b_get hO flX12_51 kLY_0 (v := .int (gI _ 13)) rfl dX12_isDoneBy_14 ?_
  refine b_iald hO kLY_5 (n := 2) rfl dX12_isDoneBy_17 ?_
  refine b_icmp_ge hO dX12_isDoneBy_18 (tgt := 49) (by decide) ?_ ?_
  · refine b_aload_n hO dX12_isDoneBy_49 0 rfl rfl ?_
    refine b_iconst hO dX12_isDoneBy_50 ic_i_1 ?_
    refine b_callVI hO mdX12_finishesDoings mvX12_finishesDoings w1653 (ci := 12) rfl rfl (by decide) kLY_0 (As := [.int _]) (st := []) (ctX12_finishesDoings n0 hO.2.2.2.2.2.2.1 _ _) (Nat.le_of_ble_eq_true rfl) rfl rfl (Nat.le_of_ble_eq_true rfl) dX12_isDoneBy_51 (fun z51 => ?_)
    refine b_pop hO dX12_isDoneBy_54 rfl ?_
    refine b_iconst hO dX12_isDoneBy_55 ic_i_0 ?_
    refine b_istore_n hO dX12_isDoneBy_56 rfl (by decide) (lv' := [(3, .int _), (0, .ref _), (1, .int _), (2, .int _)]) rfl ?_
    refine b_sub [1, 2, 3, 0] rfl ?_
    exact tfX12_isDoneBy_57 n0 hO _ _ _ _
  · refine b_aload_n hO dX12_isDoneBy_21 0 rfl rfl ?_
    refine b_get hO flX12_189 kLY_0 (v := .ref (ad 36)) rfl dX12_isDoneBy_22 ?_
    refine b_iload_n hO dX12_isDoneBy_25 3 rfl rfl ?_
    refine b_iald hO kLY_36 (n := 5) rfl dX12_isDoneBy_26 ?_
    refine b_iconst hO dX12_isDoneBy_27 ic_i_m1 ?_
    refine b_icmp_eq hO dX12_isDoneBy_28 (tgt := 43) (by decide) ?_ ?_
    · exact tfX12_isDoneBy_43 n0 hO k8 hk8 _ _ _ _
    · refine b_aload_n hO dX12_isDoneBy_31 0 rfl rfl ?_
      refine b_iconst hO dX12_isDoneBy_32 ic_i_1 ?_
      refine b_iload_n hO dX12_isDoneBy_33 3 rfl rfl ?_
      refine b_aload_n hO dX12_isDoneBy_34 0 rfl rfl ?_
      refine b_get hO flX12_189 kLY_0 (v := .ref (ad 36)) rfl dX12_isDoneBy_35 ?_
      refine b_iload_n hO dX12_isDoneBy_38 3 rfl rfl ?_
      refine b_iald hO kLY_36 (n := 5) rfl dX12_isDoneBy_39 ?_
      refine b_callVV hO mdX12_puts mvX12_puts w1765 (ci := 12) rfl rfl (by decide) kLY_0 (As := [.int _, .int _, .int _]) (st := []) (ctX12_puts n0 hO.2.2.2.2.2.2.1 _ _ _ _) (Nat.le_of_ble_eq_true rfl) rfl rfl (Nat.le_of_ble_eq_true rfl) dX12_isDoneBy_40 (fun z40 => ?_)
      exact tfX12_isDoneBy_43 n0 hO k8 hk8 _ _ _ _
theorem lX12_isDoneBy_8 (n0 : Nat) (hO : OKc p (rmL 7) s m args meth c LY D cy ad cX12_isDoneBy RX12 4 7 (some .boolean)) : ∀ (w : Nat) (x1 : Int32) (x2 : Int32) (x3 : Int32) (M : Mem), BL p l e (rmL 7) s m args below meth c LY D cy ad 4 (QI LY D cy ad) 8 [(0, .ref (ad 0)), (1, .int x1), (2, .int x2), (3, .int x3)] [] M (loopN (bX12_isDoneBy_8 n0) (fun _ _ _ _ => none) w x1 x2 x3 M) := by
  intro w
  induction w with
  | zero =>
    intros
    exact b_none
  | succ w ih =>
    intro x1 x2 x3 M
    exact tbX12_isDoneBy_8 n0 hO _ ih x1 x2 x3 M
theorem tfX12_isDoneBy_8 (n0 : Nat) (hO : OKc p (rmL 7) s m args meth c LY D cy ad cX12_isDoneBy RX12 4 7 (some .boolean)) (x1 : Int32) (x2 : Int32) (x3 : Int32) (M : Mem) : BL p l e (rmL 7) s m args below meth c LY D cy ad 4 (QI LY D cy ad) 8 [(0, .ref (ad 0)), (1, .int x1), (2, .int x2), (3, .int x3)] [] M (fX12_isDoneBy_8 n0 x1 x2 x3 M) := lX12_isDoneBy_8 n0 hO n0 x1 x2 x3 M
theorem tfX12_isDoneBy (n0 : Nat) (hO : OKc p (rmL 7) s m args meth c LY D cy ad cX12_isDoneBy RX12 4 7 (some .boolean)) (x1 : Int32) (x2 : Int32) (M : Mem) : BL p l e (rmL 7) s m args below meth c LY D cy ad 4 (QI LY D cy ad) 0 [(0, .ref (ad 0)), (1, .int x1), (2, .int x2)] [] M (fX12_isDoneBy n0 x1 x2 M) := by
  unfold fX12_isDoneBy
  refine b_aload_n hO dX12_isDoneBy_0 0 rfl rfl ?_
  refine b_iconst hO dX12_isDoneBy_1 ic_i_1 ?_
  refine b_iconst hO dX12_isDoneBy_2 ic_i_0 ?_
  refine b_callVV hO mdX12_copies mvX12_copies w1705 (ci := 12) rfl rfl (by decide) kLY_0 (As := [.int _, .int _]) (st := []) (ctX12_copies n0 hO.2.2.2.2.2.2.1 _ _ _) (Nat.le_of_ble_eq_true rfl) rfl rfl (Nat.le_of_ble_eq_true rfl) dX12_isDoneBy_3 (fun z3 => ?_)
  refine b_iconst hO dX12_isDoneBy_6 ic_i_0 ?_
  refine b_istore_n hO dX12_isDoneBy_7 rfl (by decide) (lv' := [(3, .int _), (0, .ref _), (1, .int _), (2, .int _)]) rfl ?_
  refine b_sub [1, 2, 3, 0] rfl ?_
  exact tfX12_isDoneBy_8 n0 hO _ _ _ _
theorem ctX12_isDoneBy (n0 : Nat) (hI : Inj LY ad) (x1 : Int32) (x2 : Int32) (M : Mem) : CT l LY D cy ad yX12_isDoneBy cX12_isDoneBy 4 (some .boolean) 7 (QI LY D cy ad) [.ref (ad 0), .int x1, .int x2] M (fX12_isDoneBy n0 x1 x2 M) :=
  CT.mk LYok hI (by decide) (Nat.le_of_ble_eq_true rfl) (fun hO => tfX12_isDoneBy n0 hO x1 x2 M)
/-! X12_plan -/
def fX12_plan_184 (n0 : Nat) (k95 : Int32 → Int32 → Int32 → Int32 → Int32 → Int32 → Mem → Option (Int32 × Mem)) (k122 : Int32 → Int32 → Int32 → Int32 → Int32 → Int32 → Int32 → Int32 → Int32 → Mem → Option (Int32 × Mem)) (x1 : Int32) (x2 : Int32) (x3 : Int32) (x4 : Int32) (x5 : Int32) (x6 : Int32) (x7 : Int32) (x9 : Int32) (u0 : Int32) (u1 : Int32) (M : Mem) : Option (Int32 × Mem) :=
  bnd (u0 + u1) fun x8_185 =>
  k122 x1 x2 x3 x4 x5 x6 x7 x8_185 (x9 + (-1 : Int32)) M
def fX12_plan_259 (n0 : Nat) (k95 : Int32 → Int32 → Int32 → Int32 → Int32 → Int32 → Mem → Option (Int32 × Mem)) (x1 : Int32) (x2 : Int32) (x3 : Int32) (x4 : Int32) (x5 : Int32) (x6 : Int32) (M : Mem) : Option (Int32 × Mem) :=
  k95 x1 x2 x3 x4 x5 (x6 + (1 : Int32)) M
def bX12_plan_225 (n0 : Nat) (k95 : Int32 → Int32 → Int32 → Int32 → Int32 → Int32 → Mem → Option (Int32 × Mem)) (k225 : Int32 → Int32 → Int32 → Int32 → Int32 → Int32 → Int32 → Mem → Option (Int32 × Mem)) (x1 : Int32) (x2 : Int32) (x3 : Int32) (x4 : Int32) (x5 : Int32) (x6 : Int32) (x9 : Int32) (M : Mem) : Option (Int32 × Mem) :=
  if oob (gI M 13) 2 then none else
  if (gA M 5 (Int32.toNatClampNeg (gI M 13))) ≤ x9 then
    fX12_plan_259 n0 k95 x1 x2 x3 x4 x5 x6 M
  else
    if oob x9 5 then none else
    if oob x9 5 then none else
    bnd (sA M 37 (Int32.toNatClampNeg x9) (gA M 36 (Int32.toNatClampNeg x9))) fun M252 =>
    k225 x1 x2 x3 x4 x5 x6 (x9 + (1 : Int32)) M252
def fX12_plan_225 (n0 : Nat) (k95 : Int32 → Int32 → Int32 → Int32 → Int32 → Int32 → Mem → Option (Int32 × Mem)) : Int32 → Int32 → Int32 → Int32 → Int32 → Int32 → Int32 → Mem → Option (Int32 × Mem) := loopN (bX12_plan_225 n0 k95) (fun _ _ _ _ _ _ _ _ => none) n0
def fX12_plan_206 (n0 : Nat) (k95 : Int32 → Int32 → Int32 → Int32 → Int32 → Int32 → Mem → Option (Int32 × Mem)) (x1 : Int32) (x2 : Int32) (x3 : Int32) (x4 : Int32) (x5 : Int32) (x6 : Int32) (x8 : Int32) (M : Mem) : Option (Int32 × Mem) :=
  (fX12_isDoneBy n0 x1 x2 M).bind fun z209 =>
  if z209.1 = 0 then
    fX12_plan_259 n0 k95 x1 x2 x3 x4 x5 x6 z209.2
  else
    fX12_plan_225 n0 k95 x1 x2 x3 x4 x8 x6 (0 : Int32) z209.2
def bX12_plan_122 (n0 : Nat) (k95 : Int32 → Int32 → Int32 → Int32 → Int32 → Int32 → Mem → Option (Int32 × Mem)) (k122 : Int32 → Int32 → Int32 → Int32 → Int32 → Int32 → Int32 → Int32 → Int32 → Mem → Option (Int32 × Mem)) (x1 : Int32) (x2 : Int32) (x3 : Int32) (x4 : Int32) (x5 : Int32) (x6 : Int32) (x7 : Int32) (x8 : Int32) (x9 : Int32) (M : Mem) : Option (Int32 × Mem) :=
  if x9 < 0 then
    if x5 = (-1 : Int32) then
      fX12_plan_206 n0 k95 x1 x2 x3 x4 x5 x6 x8 M
    else
      if x5 ≤ x8 then
        fX12_plan_259 n0 k95 x1 x2 x3 x4 x5 x6 M
      else
        fX12_plan_206 n0 k95 x1 x2 x3 x4 x5 x6 x8 M
  else
    if oob (gI M 13) 2 then none else
    if ((gA M 2 (Int32.toNatClampNeg (gI M 13))) + (1 : Int32)) = 0 then none else
    if oob x9 5 then none else
    bnd (sA M 36 (Int32.toNatClampNeg x9) ((rem32 x7 ((gA M 2 (Int32.toNatClampNeg (gI M 13))) + (1 : Int32))) - (1 : Int32))) fun M149 =>
    if oob (gI M149 13) 2 then none else
    if ((gA M149 2 (Int32.toNatClampNeg (gI M149 13))) + (1 : Int32)) = 0 then none else
    bnd (x7 / ((gA M149 2 (Int32.toNatClampNeg (gI M149 13))) + (1 : Int32))) fun x7_164 =>
    if oob x9 5 then none else
    if (gA M149 36 (Int32.toNatClampNeg x9)) = (-1 : Int32) then
      fX12_plan_184 n0 k95 k122 x1 x2 x3 x4 x5 x6 x7_164 x9 x8 (0 : Int32) M149
    else
      fX12_plan_184 n0 k95 k122 x1 x2 x3 x4 x5 x6 x7_164 x9 x8 (1 : Int32) M149
def fX12_plan_122 (n0 : Nat) (k95 : Int32 → Int32 → Int32 → Int32 → Int32 → Int32 → Mem → Option (Int32 × Mem)) : Int32 → Int32 → Int32 → Int32 → Int32 → Int32 → Int32 → Int32 → Int32 → Mem → Option (Int32 × Mem) := loopN (bX12_plan_122 n0 k95) (fun _ _ _ _ _ _ _ _ _ _ => none) n0
def bX12_plan_95 (n0 : Nat) (k95 : Int32 → Int32 → Int32 → Int32 → Int32 → Int32 → Mem → Option (Int32 × Mem)) (x1 : Int32) (x2 : Int32) (x3 : Int32) (x4 : Int32) (x5 : Int32) (x6 : Int32) (M : Mem) : Option (Int32 × Mem) :=
  if x4 ≤ x6 then
    if x5 = (-1 : Int32) then
      some (x5, M)
    else
      if x3 = (-1 : Int32) then
        some (x5, M)
      else
        if oob x3 5 then none else
        some ((gA M 37 (Int32.toNatClampNeg x3)), M)
  else
    if oob (gI M 13) 2 then none else
    bnd ((gA M 5 (Int32.toNatClampNeg (gI M 13))) - (1 : Int32)) fun x9_120 =>
    fX12_plan_122 n0 k95 x1 x2 x3 x4 x5 x6 x6 (0 : Int32) x9_120 M
def fX12_plan_95 (n0 : Nat) : Int32 → Int32 → Int32 → Int32 → Int32 → Int32 → Mem → Option (Int32 × Mem) := loopN (bX12_plan_95 n0) (fun _ _ _ _ _ _ _ => none) n0
def bX12_plan_53 (n0 : Nat) (k53 : Int32 → Int32 → Int32 → Int32 → Int32 → Mem → Option (Int32 × Mem)) (x1 : Int32) (x2 : Int32) (x3 : Int32) (x4 : Int32) (x5 : Int32) (M : Mem) : Option (Int32 × Mem) :=
  if oob (gI M 13) 2 then none else
  if (gA M 5 (Int32.toNatClampNeg (gI M 13))) ≤ x5 then
    fX12_plan_95 n0 x1 x2 x3 x4 (-1 : Int32) (0 : Int32) M
  else
    if oob (gI M 13) 2 then none else
    bnd (x4 * ((gA M 2 (Int32.toNatClampNeg (gI M 13))) + (1 : Int32))) fun x4_81 =>
    k53 x1 x2 x3 x4_81 (x5 + (1 : Int32)) M
def fX12_plan_53 (n0 : Nat) : Int32 → Int32 → Int32 → Int32 → Int32 → Mem → Option (Int32 × Mem) := loopN (bX12_plan_53 n0) (fun _ _ _ _ _ _ => none) n0
def fX12_plan_47 (n0 : Nat) (x1 : Int32) (x2 : Int32) (x3 : Int32) (M : Mem) : Option (Int32 × Mem) :=
  fX12_plan_53 n0 x1 x2 x3 (1 : Int32) (0 : Int32) M
def fX12_plan (n0 : Nat) (x1 : Int32) (x2 : Int32) (x3 : Int32) (M : Mem) : Option (Int32 × Mem) :=
  if oob (gI M 13) 2 then none else
  (fX12_is n0 x1 (0 : Int32) (((1 : Int32) <<< ((gA M 10 (Int32.toNatClampNeg (gI M 13))) &&& 31)) - (1 : Int32)) M).bind fun z15 =>
  if z15.1 = 0 then
    some ((-1 : Int32), z15.2)
  else
    (fX12_isAhead n0 x2 (0 : Int32) (20 : Int32) z15.2).bind fun z26 =>
    if z26.1 = 0 then
      some ((-1 : Int32), z26.2)
    else
      if x3 = (-1 : Int32) then
        fX12_plan_47 n0 x1 x2 x3 z26.2
      else
        (fX12_isCorner n0 x3 z26.2).bind fun z39 =>
        if z39.1 = 0 then
          some ((-1 : Int32), z39.2)
        else
          fX12_plan_47 n0 x1 x2 x3 z39.2
theorem tfX12_plan_184 (n0 : Nat) (hO : OKc p (rmL 8) s m args meth c LY D cy ad cX12_plan RX12 10 8 (some .int)) (k95 : Int32 → Int32 → Int32 → Int32 → Int32 → Int32 → Mem → Option (Int32 × Mem)) (k122 : Int32 → Int32 → Int32 → Int32 → Int32 → Int32 → Int32 → Int32 → Int32 → Mem → Option (Int32 × Mem)) (hk95 : ∀ (x1 : Int32) (x2 : Int32) (x3 : Int32) (x4 : Int32) (x5 : Int32) (x6 : Int32) (M : Mem), BL p l e (rmL 8) s m args below meth c LY D cy ad 10 (QI LY D cy ad) 95 [(0, .ref (ad 0)), (1, .int x1), (2, .int x2), (3, .int x3), (4, .int x4), (5, .int x5), (6, .int x6)] [] M (k95 x1 x2 x3 x4 x5 x6 M)) (hk122 : ∀ (x1 : Int32) (x2 : Int32) (x3 : Int32) (x4 : Int32) (x5 : Int32) (x6 : Int32) (x7 : Int32) (x8 : Int32) (x9 : Int32) (M : Mem), BL p l e (rmL 8) s m args below meth c LY D cy ad 10 (QI LY D cy ad) 122 [(0, .ref (ad 0)), (1, .int x1), (2, .int x2), (3, .int x3), (4, .int x4), (5, .int x5), (6, .int x6), (7, .int x7), (8, .int x8), (9, .int x9)] [] M (k122 x1 x2 x3 x4 x5 x6 x7 x8 x9 M)) (x1 : Int32) (x2 : Int32) (x3 : Int32) (x4 : Int32) (x5 : Int32) (x6 : Int32) (x7 : Int32) (x9 : Int32) (u0 : Int32) (u1 : Int32) (M : Mem) : BL p l e (rmL 8) s m args below meth c LY D cy ad 10 (QI LY D cy ad) 184 [(0, .ref (ad 0)), (1, .int x1), (2, .int x2), (3, .int x3), (4, .int x4), (5, .int x5), (6, .int x6), (7, .int x7), (9, .int x9)] [.int u1, .int u0] M (fX12_plan_184 n0 k95 k122 x1 x2 x3 x4 x5 x6 x7 x9 u0 u1 M) := by
  unfold fX12_plan_184
  refine b_iadd hO dX12_plan_184 ?_
  refine b_topI (fun x8_185 => ?_)
  refine b_istore hO dX12_plan_185 (by decide) (lv' := [(8, .int _), (0, .ref _), (1, .int _), (2, .int _), (3, .int _), (4, .int _), (5, .int _), (6, .int _), (7, .int _), (9, .int _)]) rfl ?_
  refine b_iinc hO dX12_plan_187 9 rfl ic_i_m1 (by decide) (lv' := [(9, .int _), (8, .int _), (0, .ref _), (1, .int _), (2, .int _), (3, .int _), (4, .int _), (5, .int _), (6, .int _), (7, .int _)]) rfl ?_
  refine b_goto hO dX12_plan_190 (tgt := 122) (by decide) ?_
  refine b_sub [2, 3, 4, 5, 6, 7, 8, 9, 1, 0] rfl ?_
  exact hk122 _ _ _ _ _ _ _ _ _ _
theorem tfX12_plan_259 (n0 : Nat) (hO : OKc p (rmL 8) s m args meth c LY D cy ad cX12_plan RX12 10 8 (some .int)) (k95 : Int32 → Int32 → Int32 → Int32 → Int32 → Int32 → Mem → Option (Int32 × Mem)) (hk95 : ∀ (x1 : Int32) (x2 : Int32) (x3 : Int32) (x4 : Int32) (x5 : Int32) (x6 : Int32) (M : Mem), BL p l e (rmL 8) s m args below meth c LY D cy ad 10 (QI LY D cy ad) 95 [(0, .ref (ad 0)), (1, .int x1), (2, .int x2), (3, .int x3), (4, .int x4), (5, .int x5), (6, .int x6)] [] M (k95 x1 x2 x3 x4 x5 x6 M)) (x1 : Int32) (x2 : Int32) (x3 : Int32) (x4 : Int32) (x5 : Int32) (x6 : Int32) (M : Mem) : BL p l e (rmL 8) s m args below meth c LY D cy ad 10 (QI LY D cy ad) 259 [(0, .ref (ad 0)), (1, .int x1), (2, .int x2), (3, .int x3), (4, .int x4), (5, .int x5), (6, .int x6)] [] M (fX12_plan_259 n0 k95 x1 x2 x3 x4 x5 x6 M) := by
  unfold fX12_plan_259
  refine b_iinc hO dX12_plan_259 6 rfl ic_i_1 (by decide) (lv' := [(6, .int _), (0, .ref _), (1, .int _), (2, .int _), (3, .int _), (4, .int _), (5, .int _)]) rfl ?_
  refine b_goto hO dX12_plan_262 (tgt := 95) (by decide) ?_
  refine b_sub [1, 2, 3, 4, 5, 6, 0] rfl ?_
  exact hk95 _ _ _ _ _ _ _
theorem tbX12_plan_225 (n0 : Nat) (hO : OKc p (rmL 8) s m args meth c LY D cy ad cX12_plan RX12 10 8 (some .int)) (k95 : Int32 → Int32 → Int32 → Int32 → Int32 → Int32 → Mem → Option (Int32 × Mem)) (k225 : Int32 → Int32 → Int32 → Int32 → Int32 → Int32 → Int32 → Mem → Option (Int32 × Mem)) (hk95 : ∀ (x1 : Int32) (x2 : Int32) (x3 : Int32) (x4 : Int32) (x5 : Int32) (x6 : Int32) (M : Mem), BL p l e (rmL 8) s m args below meth c LY D cy ad 10 (QI LY D cy ad) 95 [(0, .ref (ad 0)), (1, .int x1), (2, .int x2), (3, .int x3), (4, .int x4), (5, .int x5), (6, .int x6)] [] M (k95 x1 x2 x3 x4 x5 x6 M)) (hk225 : ∀ (x1 : Int32) (x2 : Int32) (x3 : Int32) (x4 : Int32) (x5 : Int32) (x6 : Int32) (x9 : Int32) (M : Mem), BL p l e (rmL 8) s m args below meth c LY D cy ad 10 (QI LY D cy ad) 225 [(0, .ref (ad 0)), (1, .int x1), (2, .int x2), (3, .int x3), (4, .int x4), (5, .int x5), (6, .int x6), (9, .int x9)] [] M (k225 x1 x2 x3 x4 x5 x6 x9 M)) (x1 : Int32) (x2 : Int32) (x3 : Int32) (x4 : Int32) (x5 : Int32) (x6 : Int32) (x9 : Int32) (M : Mem) : BL p l e (rmL 8) s m args below meth c LY D cy ad 10 (QI LY D cy ad) 225 [(0, .ref (ad 0)), (1, .int x1), (2, .int x2), (3, .int x3), (4, .int x4), (5, .int x5), (6, .int x6), (9, .int x9)] [] M (bX12_plan_225 n0 k95 k225 x1 x2 x3 x4 x5 x6 x9 M) := by
  unfold bX12_plan_225
  refine b_iload hO dX12_plan_225 7 rfl ?_
  refine b_aload_n hO dX12_plan_227 0 rfl rfl ?_
  refine b_get hO flX12_63 kLY_0 (v := .ref (ad 5)) rfl dX12_plan_228 ?_
  refine b_aload_n hO dX12_plan_231 0 rfl rfl ?_
  refine b_get hO flX12_51 kLY_0 (v := .int (gI _ 13)) rfl dX12_plan_232 ?_
  refine b_iald hO kLY_5 (n := 2) rfl dX12_plan_235 ?_
  refine b_icmp_ge hO dX12_plan_236 (tgt := 259) (by decide) ?_ ?_
  · refine b_sub [0, 1, 2, 3, 4, 5, 6] rfl ?_
    exact tfX12_plan_259 n0 hO k95 hk95 _ _ _ _ _ _ _
  · refine b_aload_n hO dX12_plan_239 0 rfl rfl ?_
    refine b_get hO flX12_192 kLY_0 (v := .ref (ad 37)) rfl dX12_plan_240 ?_
    refine b_iload hO dX12_plan_243 7 rfl ?_
    refine b_aload_n hO dX12_plan_245 0 rfl rfl ?_
    refine b_get hO flX12_189 kLY_0 (v := .ref (ad 36)) rfl dX12_plan_246 ?_
    refine b_iload hO dX12_plan_249 7 rfl ?_
    refine b_iald hO kLY_36 (n := 5) rfl dX12_plan_251 ?_
    refine b_iast hO kLY_37 (n := 5) rfl dX12_plan_252 ?_
    refine b_bnd (fun M252 => ?_)
    refine b_iinc hO dX12_plan_253 7 rfl ic_i_1 (by decide) (lv' := [(9, .int _), (0, .ref _), (1, .int _), (2, .int _), (3, .int _), (4, .int _), (5, .int _), (6, .int _)]) rfl ?_
    refine b_goto hO dX12_plan_256 (tgt := 225) (by decide) ?_
    refine b_sub [1, 2, 3, 4, 5, 6, 7, 0] rfl ?_
    exact hk225 _ _ _ _ _ _ _ _
theorem lX12_plan_225 (n0 : Nat) (hO : OKc p (rmL 8) s m args meth c LY D cy ad cX12_plan RX12 10 8 (some .int)) (k95 : Int32 → Int32 → Int32 → Int32 → Int32 → Int32 → Mem → Option (Int32 × Mem)) (hk95 : ∀ (x1 : Int32) (x2 : Int32) (x3 : Int32) (x4 : Int32) (x5 : Int32) (x6 : Int32) (M : Mem), BL p l e (rmL 8) s m args below meth c LY D cy ad 10 (QI LY D cy ad) 95 [(0, .ref (ad 0)), (1, .int x1), (2, .int x2), (3, .int x3), (4, .int x4), (5, .int x5), (6, .int x6)] [] M (k95 x1 x2 x3 x4 x5 x6 M)) : ∀ (w : Nat) (x1 : Int32) (x2 : Int32) (x3 : Int32) (x4 : Int32) (x5 : Int32) (x6 : Int32) (x9 : Int32) (M : Mem), BL p l e (rmL 8) s m args below meth c LY D cy ad 10 (QI LY D cy ad) 225 [(0, .ref (ad 0)), (1, .int x1), (2, .int x2), (3, .int x3), (4, .int x4), (5, .int x5), (6, .int x6), (9, .int x9)] [] M (loopN (bX12_plan_225 n0 k95) (fun _ _ _ _ _ _ _ _ => none) w x1 x2 x3 x4 x5 x6 x9 M) := by
  intro w
  induction w with
  | zero =>
    intros
    exact b_none
  | succ w ih =>
    intro x1 x2 x3 x4 x5 x6 x9 M
    exact tbX12_plan_225 n0 hO k95 _ hk95 ih x1 x2 x3 x4 x5 x6 x9 M
theorem tfX12_plan_225 (n0 : Nat) (hO : OKc p (rmL 8) s m args meth c LY D cy ad cX12_plan RX12 10 8 (some .int)) (k95 : Int32 → Int32 → Int32 → Int32 → Int32 → Int32 → Mem → Option (Int32 × Mem)) (hk95 : ∀ (x1 : Int32) (x2 : Int32) (x3 : Int32) (x4 : Int32) (x5 : Int32) (x6 : Int32) (M : Mem), BL p l e (rmL 8) s m args below meth c LY D cy ad 10 (QI LY D cy ad) 95 [(0, .ref (ad 0)), (1, .int x1), (2, .int x2), (3, .int x3), (4, .int x4), (5, .int x5), (6, .int x6)] [] M (k95 x1 x2 x3 x4 x5 x6 M)) (x1 : Int32) (x2 : Int32) (x3 : Int32) (x4 : Int32) (x5 : Int32) (x6 : Int32) (x9 : Int32) (M : Mem) : BL p l e (rmL 8) s m args below meth c LY D cy ad 10 (QI LY D cy ad) 225 [(0, .ref (ad 0)), (1, .int x1), (2, .int x2), (3, .int x3), (4, .int x4), (5, .int x5), (6, .int x6), (9, .int x9)] [] M (fX12_plan_225 n0 k95 x1 x2 x3 x4 x5 x6 x9 M) := lX12_plan_225 n0 hO k95 hk95 n0 x1 x2 x3 x4 x5 x6 x9 M
theorem tfX12_plan_206 (n0 : Nat) (hO : OKc p (rmL 8) s m args meth c LY D cy ad cX12_plan RX12 10 8 (some .int)) (k95 : Int32 → Int32 → Int32 → Int32 → Int32 → Int32 → Mem → Option (Int32 × Mem)) (hk95 : ∀ (x1 : Int32) (x2 : Int32) (x3 : Int32) (x4 : Int32) (x5 : Int32) (x6 : Int32) (M : Mem), BL p l e (rmL 8) s m args below meth c LY D cy ad 10 (QI LY D cy ad) 95 [(0, .ref (ad 0)), (1, .int x1), (2, .int x2), (3, .int x3), (4, .int x4), (5, .int x5), (6, .int x6)] [] M (k95 x1 x2 x3 x4 x5 x6 M)) (x1 : Int32) (x2 : Int32) (x3 : Int32) (x4 : Int32) (x5 : Int32) (x6 : Int32) (x8 : Int32) (M : Mem) : BL p l e (rmL 8) s m args below meth c LY D cy ad 10 (QI LY D cy ad) 206 [(0, .ref (ad 0)), (1, .int x1), (2, .int x2), (3, .int x3), (4, .int x4), (5, .int x5), (6, .int x6), (8, .int x8)] [] M (fX12_plan_206 n0 k95 x1 x2 x3 x4 x5 x6 x8 M) := by
  unfold fX12_plan_206
  refine b_aload_n hO dX12_plan_206 0 rfl rfl ?_
  refine b_iload_n hO dX12_plan_207 1 rfl rfl ?_
  refine b_iload_n hO dX12_plan_208 2 rfl rfl ?_
  refine b_callVI hO mdX12_isDoneBy mvX12_isDoneBy w1781 (ci := 12) rfl rfl (by decide) kLY_0 (As := [.int _, .int _]) (st := []) (ctX12_isDoneBy n0 hO.2.2.2.2.2.2.1 _ _ _) (Nat.le_of_ble_eq_true rfl) rfl rfl (Nat.le_of_ble_eq_true rfl) dX12_plan_209 (fun z209 => ?_)
  refine b_if_ne hO dX12_plan_212 (tgt := 218) (by decide) ?_ ?_
  · refine b_iload hO dX12_plan_218 7 rfl ?_
    refine b_istore hO dX12_plan_220 (by decide) (lv' := [(5, .int _), (0, .ref _), (1, .int _), (2, .int _), (3, .int _), (4, .int _), (6, .int _), (8, .int _)]) rfl ?_
    refine b_iconst hO dX12_plan_222 ic_i_0 ?_
    refine b_istore hO dX12_plan_223 (by decide) (lv' := [(9, .int _), (5, .int _), (0, .ref _), (1, .int _), (2, .int _), (3, .int _), (4, .int _), (6, .int _), (8, .int _)]) rfl ?_
    refine b_sub [2, 3, 4, 5, 6, 1, 7, 0] rfl ?_
    exact tfX12_plan_225 n0 hO k95 hk95 _ _ _ _ _ _ _ _
  · refine b_goto hO dX12_plan_215 (tgt := 259) (by decide) ?_
    refine b_sub [0, 1, 2, 3, 4, 5, 6] rfl ?_
    exact tfX12_plan_259 n0 hO k95 hk95 _ _ _ _ _ _ _
theorem tbX12_plan_122 (n0 : Nat) (hO : OKc p (rmL 8) s m args meth c LY D cy ad cX12_plan RX12 10 8 (some .int)) (k95 : Int32 → Int32 → Int32 → Int32 → Int32 → Int32 → Mem → Option (Int32 × Mem)) (k122 : Int32 → Int32 → Int32 → Int32 → Int32 → Int32 → Int32 → Int32 → Int32 → Mem → Option (Int32 × Mem)) (hk95 : ∀ (x1 : Int32) (x2 : Int32) (x3 : Int32) (x4 : Int32) (x5 : Int32) (x6 : Int32) (M : Mem), BL p l e (rmL 8) s m args below meth c LY D cy ad 10 (QI LY D cy ad) 95 [(0, .ref (ad 0)), (1, .int x1), (2, .int x2), (3, .int x3), (4, .int x4), (5, .int x5), (6, .int x6)] [] M (k95 x1 x2 x3 x4 x5 x6 M)) (hk122 : ∀ (x1 : Int32) (x2 : Int32) (x3 : Int32) (x4 : Int32) (x5 : Int32) (x6 : Int32) (x7 : Int32) (x8 : Int32) (x9 : Int32) (M : Mem), BL p l e (rmL 8) s m args below meth c LY D cy ad 10 (QI LY D cy ad) 122 [(0, .ref (ad 0)), (1, .int x1), (2, .int x2), (3, .int x3), (4, .int x4), (5, .int x5), (6, .int x6), (7, .int x7), (8, .int x8), (9, .int x9)] [] M (k122 x1 x2 x3 x4 x5 x6 x7 x8 x9 M)) (x1 : Int32) (x2 : Int32) (x3 : Int32) (x4 : Int32) (x5 : Int32) (x6 : Int32) (x7 : Int32) (x8 : Int32) (x9 : Int32) (M : Mem) : BL p l e (rmL 8) s m args below meth c LY D cy ad 10 (QI LY D cy ad) 122 [(0, .ref (ad 0)), (1, .int x1), (2, .int x2), (3, .int x3), (4, .int x4), (5, .int x5), (6, .int x6), (7, .int x7), (8, .int x8), (9, .int x9)] [] M (bX12_plan_122 n0 k95 k122 x1 x2 x3 x4 x5 x6 x7 x8 x9 M) := by
  unfold bX12_plan_122
  refine b_iload hO dX12_plan_122 9 rfl ?_
  refine b_if_lt hO dX12_plan_124 (tgt := 193) (by decide) ?_ ?_
  · refine b_iload hO dX12_plan_193 5 rfl ?_
    refine b_iconst hO dX12_plan_195 ic_i_m1 ?_
    refine b_icmp_eq hO dX12_plan_196 (tgt := 206) (by decide) ?_ ?_
    · refine b_sub [0, 1, 2, 3, 4, 5, 6, 8] rfl ?_
      exact tfX12_plan_206 n0 hO k95 hk95 _ _ _ _ _ _ _ _
    · refine b_iload hO dX12_plan_199 8 rfl ?_
      refine b_iload hO dX12_plan_201 5 rfl ?_
      refine b_icmp_ge hO dX12_plan_203 (tgt := 259) (by decide) ?_ ?_
      · refine b_sub [0, 1, 2, 3, 4, 5, 6] rfl ?_
        exact tfX12_plan_259 n0 hO k95 hk95 _ _ _ _ _ _ _
      · refine b_sub [0, 1, 2, 3, 4, 5, 6, 8] rfl ?_
        exact tfX12_plan_206 n0 hO k95 hk95 _ _ _ _ _ _ _ _
  · refine b_aload_n hO dX12_plan_127 0 rfl rfl ?_
    refine b_get hO flX12_189 kLY_0 (v := .ref (ad 36)) rfl dX12_plan_128 ?_
    refine b_iload hO dX12_plan_131 9 rfl ?_
    refine b_iload hO dX12_plan_133 7 rfl ?_
    refine b_aload_n hO dX12_plan_135 0 rfl rfl ?_
    refine b_get hO flX12_54 kLY_0 (v := .ref (ad 2)) rfl dX12_plan_136 ?_
    refine b_aload_n hO dX12_plan_139 0 rfl rfl ?_
    refine b_get hO flX12_51 kLY_0 (v := .int (gI _ 13)) rfl dX12_plan_140 ?_
    refine b_iald hO kLY_2 (n := 2) rfl dX12_plan_143 ?_
    refine b_iconst hO dX12_plan_144 ic_i_1 ?_
    refine b_iadd hO dX12_plan_145 ?_
    refine b_irem hO dX12_plan_146 ?_
    refine b_iconst hO dX12_plan_147 ic_i_1 ?_
    refine b_isub hO dX12_plan_148 ?_
    refine b_iast hO kLY_36 (n := 5) rfl dX12_plan_149 ?_
    refine b_bnd (fun M149 => ?_)
    refine b_iload hO dX12_plan_150 7 rfl ?_
    refine b_aload_n hO dX12_plan_152 0 rfl rfl ?_
    refine b_get hO flX12_54 kLY_0 (v := .ref (ad 2)) rfl dX12_plan_153 ?_
    refine b_aload_n hO dX12_plan_156 0 rfl rfl ?_
    refine b_get hO flX12_51 kLY_0 (v := .int (gI _ 13)) rfl dX12_plan_157 ?_
    refine b_iald hO kLY_2 (n := 2) rfl dX12_plan_160 ?_
    refine b_iconst hO dX12_plan_161 ic_i_1 ?_
    refine b_iadd hO dX12_plan_162 ?_
    refine b_idiv hO dX12_plan_163 ?_
    refine b_topI (fun x7_164 => ?_)
    refine b_istore hO dX12_plan_164 (by decide) (lv' := [(7, .int _), (0, .ref _), (1, .int _), (2, .int _), (3, .int _), (4, .int _), (5, .int _), (6, .int _), (8, .int _), (9, .int _)]) rfl ?_
    refine b_iload hO dX12_plan_166 8 rfl ?_
    refine b_aload_n hO dX12_plan_168 1 rfl rfl ?_
    refine b_get hO flX12_189 kLY_0 (v := .ref (ad 36)) rfl dX12_plan_169 ?_
    refine b_iload hO dX12_plan_172 9 rfl ?_
    refine b_iald hO kLY_36 (n := 5) rfl dX12_plan_174 ?_
    refine b_iconst hO dX12_plan_175 ic_i_m1 ?_
    refine b_icmp_eq hO dX12_plan_176 (tgt := 183) (by decide) ?_ ?_
    · refine b_iconst hO dX12_plan_183 ic_i_0 ?_
      refine b_sub [1, 2, 3, 4, 5, 6, 7, 0, 9] rfl ?_
      exact tfX12_plan_184 n0 hO k95 k122 hk95 hk122 _ _ _ _ _ _ _ _ _ _ _
    · refine b_iconst hO dX12_plan_179 ic_i_1 ?_
      refine b_goto hO dX12_plan_180 (tgt := 184) (by decide) ?_
      refine b_sub [1, 2, 3, 4, 5, 6, 7, 0, 9] rfl ?_
      exact tfX12_plan_184 n0 hO k95 k122 hk95 hk122 _ _ _ _ _ _ _ _ _ _ _
theorem lX12_plan_122 (n0 : Nat) (hO : OKc p (rmL 8) s m args meth c LY D cy ad cX12_plan RX12 10 8 (some .int)) (k95 : Int32 → Int32 → Int32 → Int32 → Int32 → Int32 → Mem → Option (Int32 × Mem)) (hk95 : ∀ (x1 : Int32) (x2 : Int32) (x3 : Int32) (x4 : Int32) (x5 : Int32) (x6 : Int32) (M : Mem), BL p l e (rmL 8) s m args below meth c LY D cy ad 10 (QI LY D cy ad) 95 [(0, .ref (ad 0)), (1, .int x1), (2, .int x2), (3, .int x3), (4, .int x4), (5, .int x5), (6, .int x6)] [] M (k95 x1 x2 x3 x4 x5 x6 M)) : ∀ (w : Nat) (x1 : Int32) (x2 : Int32) (x3 : Int32) (x4 : Int32) (x5 : Int32) (x6 : Int32) (x7 : Int32) (x8 : Int32) (x9 : Int32) (M : Mem), BL p l e (rmL 8) s m args below meth c LY D cy ad 10 (QI LY D cy ad) 122 [(0, .ref (ad 0)), (1, .int x1), (2, .int x2), (3, .int x3), (4, .int x4), (5, .int x5), (6, .int x6), (7, .int x7), (8, .int x8), (9, .int x9)] [] M (loopN (bX12_plan_122 n0 k95) (fun _ _ _ _ _ _ _ _ _ _ => none) w x1 x2 x3 x4 x5 x6 x7 x8 x9 M) := by
  intro w
  induction w with
  | zero =>
    intros
    exact b_none
  | succ w ih =>
    intro x1 x2 x3 x4 x5 x6 x7 x8 x9 M
    exact tbX12_plan_122 n0 hO k95 _ hk95 ih x1 x2 x3 x4 x5 x6 x7 x8 x9 M
theorem tfX12_plan_122 (n0 : Nat) (hO : OKc p (rmL 8) s m args meth c LY D cy ad cX12_plan RX12 10 8 (some .int)) (k95 : Int32 → Int32 → Int32 → Int32 → Int32 → Int32 → Mem → Option (Int32 × Mem)) (hk95 : ∀ (x1 : Int32) (x2 : Int32) (x3 : Int32) (x4 : Int32) (x5 : Int32) (x6 : Int32) (M : Mem), BL p l e (rmL 8) s m args below meth c LY D cy ad 10 (QI LY D cy ad) 95 [(0, .ref (ad 0)), (1, .int x1), (2, .int x2), (3, .int x3), (4, .int x4), (5, .int x5), (6, .int x6)] [] M (k95 x1 x2 x3 x4 x5 x6 M)) (x1 : Int32) (x2 : Int32) (x3 : Int32) (x4 : Int32) (x5 : Int32) (x6 : Int32) (x7 : Int32) (x8 : Int32) (x9 : Int32) (M : Mem) : BL p l e (rmL 8) s m args below meth c LY D cy ad 10 (QI LY D cy ad) 122 [(0, .ref (ad 0)), (1, .int x1), (2, .int x2), (3, .int x3), (4, .int x4), (5, .int x5), (6, .int x6), (7, .int x7), (8, .int x8), (9, .int x9)] [] M (fX12_plan_122 n0 k95 x1 x2 x3 x4 x5 x6 x7 x8 x9 M) := lX12_plan_122 n0 hO k95 hk95 n0 x1 x2 x3 x4 x5 x6 x7 x8 x9 M
theorem tbX12_plan_95 (n0 : Nat) (hO : OKc p (rmL 8) s m args meth c LY D cy ad cX12_plan RX12 10 8 (some .int)) (k95 : Int32 → Int32 → Int32 → Int32 → Int32 → Int32 → Mem → Option (Int32 × Mem)) (hk95 : ∀ (x1 : Int32) (x2 : Int32) (x3 : Int32) (x4 : Int32) (x5 : Int32) (x6 : Int32) (M : Mem), BL p l e (rmL 8) s m args below meth c LY D cy ad 10 (QI LY D cy ad) 95 [(0, .ref (ad 0)), (1, .int x1), (2, .int x2), (3, .int x3), (4, .int x4), (5, .int x5), (6, .int x6)] [] M (k95 x1 x2 x3 x4 x5 x6 M)) (x1 : Int32) (x2 : Int32) (x3 : Int32) (x4 : Int32) (x5 : Int32) (x6 : Int32) (M : Mem) : BL p l e (rmL 8) s m args below meth c LY D cy ad 10 (QI LY D cy ad) 95 [(0, .ref (ad 0)), (1, .int x1), (2, .int x2), (3, .int x3), (4, .int x4), (5, .int x5), (6, .int x6)] [] M (bX12_plan_95 n0 k95 x1 x2 x3 x4 x5 x6 M) := by
  unfold bX12_plan_95
  refine b_iload hO dX12_plan_95 6 rfl ?_
  refine b_iload hO dX12_plan_97 4 rfl ?_
  refine b_icmp_ge hO dX12_plan_99 (tgt := 265) (by decide) ?_ ?_
  · refine b_iload hO dX12_plan_265 5 rfl ?_
    refine b_iconst hO dX12_plan_267 ic_i_m1 ?_
    refine b_icmp_eq hO dX12_plan_268 (tgt := 276) (by decide) ?_ ?_
    · refine b_iload hO dX12_plan_276 5 rfl ?_
      refine b_goto hO dX12_plan_278 (tgt := 287) (by decide) ?_
      exact b_iret hO dX12_plan_287
    · refine b_iload_n hO dX12_plan_271 3 rfl rfl ?_
      refine b_iconst hO dX12_plan_272 ic_i_m1 ?_
      refine b_icmp_ne hO dX12_plan_273 (tgt := 281) (by decide) ?_ ?_
      · refine b_aload_n hO dX12_plan_281 0 rfl rfl ?_
        refine b_get hO flX12_192 kLY_0 (v := .ref (ad 37)) rfl dX12_plan_282 ?_
        refine b_iload_n hO dX12_plan_285 3 rfl rfl ?_
        refine b_iald hO kLY_37 (n := 5) rfl dX12_plan_286 ?_
        exact b_iret hO dX12_plan_287
      · refine b_iload hO dX12_plan_276 5 rfl ?_
        refine b_goto hO dX12_plan_278 (tgt := 287) (by decide) ?_
        exact b_iret hO dX12_plan_287
  · refine b_iload hO dX12_plan_102 6 rfl ?_
    refine b_istore hO dX12_plan_104 (by decide) (lv' := [(7, .int _), (0, .ref _), (1, .int _), (2, .int _), (3, .int _), (4, .int _), (5, .int _), (6, .int _)]) rfl ?_
    refine b_iconst hO dX12_plan_106 ic_i_0 ?_
    refine b_istore hO dX12_plan_107 (by decide) (lv' := [(8, .int _), (7, .int _), (0, .ref _), (1, .int _), (2, .int _), (3, .int _), (4, .int _), (5, .int _), (6, .int _)]) rfl ?_
    refine b_aload_n hO dX12_plan_109 2 rfl rfl ?_
    refine b_get hO flX12_63 kLY_0 (v := .ref (ad 5)) rfl dX12_plan_110 ?_
    refine b_aload_n hO dX12_plan_113 2 rfl rfl ?_
    refine b_get hO flX12_51 kLY_0 (v := .int (gI _ 13)) rfl dX12_plan_114 ?_
    refine b_iald hO kLY_5 (n := 2) rfl dX12_plan_117 ?_
    refine b_iconst hO dX12_plan_118 ic_i_1 ?_
    refine b_isub hO dX12_plan_119 ?_
    refine b_topI (fun x9_120 => ?_)
    refine b_istore hO dX12_plan_120 (by decide) (lv' := [(9, .int _), (8, .int _), (7, .int _), (0, .ref _), (1, .int _), (2, .int _), (3, .int _), (4, .int _), (5, .int _), (6, .int _)]) rfl ?_
    refine b_sub [3, 4, 5, 6, 7, 8, 9, 2, 1, 0] rfl ?_
    exact tfX12_plan_122 n0 hO k95 hk95 _ _ _ _ _ _ _ _ _ _
theorem lX12_plan_95 (n0 : Nat) (hO : OKc p (rmL 8) s m args meth c LY D cy ad cX12_plan RX12 10 8 (some .int)) : ∀ (w : Nat) (x1 : Int32) (x2 : Int32) (x3 : Int32) (x4 : Int32) (x5 : Int32) (x6 : Int32) (M : Mem), BL p l e (rmL 8) s m args below meth c LY D cy ad 10 (QI LY D cy ad) 95 [(0, .ref (ad 0)), (1, .int x1), (2, .int x2), (3, .int x3), (4, .int x4), (5, .int x5), (6, .int x6)] [] M (loopN (bX12_plan_95 n0) (fun _ _ _ _ _ _ _ => none) w x1 x2 x3 x4 x5 x6 M) := by
  intro w
  induction w with
  | zero =>
    intros
    exact b_none
  | succ w ih =>
    intro x1 x2 x3 x4 x5 x6 M
    exact tbX12_plan_95 n0 hO _ ih x1 x2 x3 x4 x5 x6 M
theorem tfX12_plan_95 (n0 : Nat) (hO : OKc p (rmL 8) s m args meth c LY D cy ad cX12_plan RX12 10 8 (some .int)) (x1 : Int32) (x2 : Int32) (x3 : Int32) (x4 : Int32) (x5 : Int32) (x6 : Int32) (M : Mem) : BL p l e (rmL 8) s m args below meth c LY D cy ad 10 (QI LY D cy ad) 95 [(0, .ref (ad 0)), (1, .int x1), (2, .int x2), (3, .int x3), (4, .int x4), (5, .int x5), (6, .int x6)] [] M (fX12_plan_95 n0 x1 x2 x3 x4 x5 x6 M) := lX12_plan_95 n0 hO n0 x1 x2 x3 x4 x5 x6 M
theorem tbX12_plan_53 (n0 : Nat) (hO : OKc p (rmL 8) s m args meth c LY D cy ad cX12_plan RX12 10 8 (some .int)) (k53 : Int32 → Int32 → Int32 → Int32 → Int32 → Mem → Option (Int32 × Mem)) (hk53 : ∀ (x1 : Int32) (x2 : Int32) (x3 : Int32) (x4 : Int32) (x5 : Int32) (M : Mem), BL p l e (rmL 8) s m args below meth c LY D cy ad 10 (QI LY D cy ad) 53 [(0, .ref (ad 0)), (1, .int x1), (2, .int x2), (3, .int x3), (4, .int x4), (5, .int x5)] [] M (k53 x1 x2 x3 x4 x5 M)) (x1 : Int32) (x2 : Int32) (x3 : Int32) (x4 : Int32) (x5 : Int32) (M : Mem) : BL p l e (rmL 8) s m args below meth c LY D cy ad 10 (QI LY D cy ad) 53 [(0, .ref (ad 0)), (1, .int x1), (2, .int x2), (3, .int x3), (4, .int x4), (5, .int x5)] [] M (bX12_plan_53 n0 k53 x1 x2 x3 x4 x5 M) := by
  unfold bX12_plan_53
  refine b_iload hO dX12_plan_53 5 rfl ?_
  refine b_aload_n hO dX12_plan_55 0 rfl rfl ?_
  refine b_get hO flX12_63 kLY_0 (v := .ref (ad 5)) rfl dX12_plan_56 ?_
  refine b_aload_n hO dX12_plan_59 0 rfl rfl ?_
  refine b_get hO flX12_51 kLY_0 (v := .int (gI _ 13)) rfl dX12_plan_60 ?_
  refine b_iald hO kLY_5 (n := 2) rfl dX12_plan_63 ?_
  refine b_icmp_ge hO dX12_plan_64 (tgt := 89) (by decide) ?_ ?_
  · refine b_iconst hO dX12_plan_89 ic_i_m1 ?_
    refine b_istore hO dX12_plan_90 (by decide) (lv' := [(5, .int _), (0, .ref _), (1, .int _), (2, .int _), (3, .int _), (4, .int _)]) rfl ?_
    refine b_iconst hO dX12_plan_92 ic_i_0 ?_
    refine b_istore hO dX12_plan_93 (by decide) (lv' := [(6, .int _), (5, .int _), (0, .ref _), (1, .int _), (2, .int _), (3, .int _), (4, .int _)]) rfl ?_
    refine b_sub [2, 3, 4, 5, 6, 1, 0] rfl ?_
    exact tfX12_plan_95 n0 hO _ _ _ _ _ _ _
  · refine b_iload hO dX12_plan_67 4 rfl ?_
    refine b_aload_n hO dX12_plan_69 0 rfl rfl ?_
    refine b_get hO flX12_54 kLY_0 (v := .ref (ad 2)) rfl dX12_plan_70 ?_
    refine b_aload_n hO dX12_plan_73 0 rfl rfl ?_
    refine b_get hO flX12_51 kLY_0 (v := .int (gI _ 13)) rfl dX12_plan_74 ?_
    refine b_iald hO kLY_2 (n := 2) rfl dX12_plan_77 ?_
    refine b_iconst hO dX12_plan_78 ic_i_1 ?_
    refine b_iadd hO dX12_plan_79 ?_
    refine b_imul hO dX12_plan_80 ?_
    refine b_topI (fun x4_81 => ?_)
    refine b_istore hO dX12_plan_81 (by decide) (lv' := [(4, .int _), (0, .ref _), (1, .int _), (2, .int _), (3, .int _), (5, .int _)]) rfl ?_
    refine b_iinc hO dX12_plan_83 5 rfl ic_i_1 (by decide) (lv' := [(5, .int _), (4, .int _), (0, .ref _), (1, .int _), (2, .int _), (3, .int _)]) rfl ?_
    refine b_goto hO dX12_plan_86 (tgt := 53) (by decide) ?_
    refine b_sub [2, 3, 4, 5, 1, 0] rfl ?_
    exact hk53 _ _ _ _ _ _
theorem lX12_plan_53 (n0 : Nat) (hO : OKc p (rmL 8) s m args meth c LY D cy ad cX12_plan RX12 10 8 (some .int)) : ∀ (w : Nat) (x1 : Int32) (x2 : Int32) (x3 : Int32) (x4 : Int32) (x5 : Int32) (M : Mem), BL p l e (rmL 8) s m args below meth c LY D cy ad 10 (QI LY D cy ad) 53 [(0, .ref (ad 0)), (1, .int x1), (2, .int x2), (3, .int x3), (4, .int x4), (5, .int x5)] [] M (loopN (bX12_plan_53 n0) (fun _ _ _ _ _ _ => none) w x1 x2 x3 x4 x5 M) := by
  intro w
  induction w with
  | zero =>
    intros
    exact b_none
  | succ w ih =>
    intro x1 x2 x3 x4 x5 M
    exact tbX12_plan_53 n0 hO _ ih x1 x2 x3 x4 x5 M
theorem tfX12_plan_53 (n0 : Nat) (hO : OKc p (rmL 8) s m args meth c LY D cy ad cX12_plan RX12 10 8 (some .int)) (x1 : Int32) (x2 : Int32) (x3 : Int32) (x4 : Int32) (x5 : Int32) (M : Mem) : BL p l e (rmL 8) s m args below meth c LY D cy ad 10 (QI LY D cy ad) 53 [(0, .ref (ad 0)), (1, .int x1), (2, .int x2), (3, .int x3), (4, .int x4), (5, .int x5)] [] M (fX12_plan_53 n0 x1 x2 x3 x4 x5 M) := lX12_plan_53 n0 hO n0 x1 x2 x3 x4 x5 M
theorem tfX12_plan_47 (n0 : Nat) (hO : OKc p (rmL 8) s m args meth c LY D cy ad cX12_plan RX12 10 8 (some .int)) (x1 : Int32) (x2 : Int32) (x3 : Int32) (M : Mem) : BL p l e (rmL 8) s m args below meth c LY D cy ad 10 (QI LY D cy ad) 47 [(0, .ref (ad 0)), (1, .int x1), (2, .int x2), (3, .int x3)] [] M (fX12_plan_47 n0 x1 x2 x3 M) := by
  unfold fX12_plan_47
  refine b_iconst hO dX12_plan_47 ic_i_1 ?_
  refine b_istore hO dX12_plan_48 (by decide) (lv' := [(4, .int _), (0, .ref _), (1, .int _), (2, .int _), (3, .int _)]) rfl ?_
  refine b_iconst hO dX12_plan_50 ic_i_0 ?_
  refine b_istore hO dX12_plan_51 (by decide) (lv' := [(5, .int _), (4, .int _), (0, .ref _), (1, .int _), (2, .int _), (3, .int _)]) rfl ?_
  refine b_sub [2, 3, 4, 5, 1, 0] rfl ?_
  exact tfX12_plan_53 n0 hO _ _ _ _ _ _
theorem tfX12_plan (n0 : Nat) (hO : OKc p (rmL 8) s m args meth c LY D cy ad cX12_plan RX12 10 8 (some .int)) (x1 : Int32) (x2 : Int32) (x3 : Int32) (M : Mem) : BL p l e (rmL 8) s m args below meth c LY D cy ad 10 (QI LY D cy ad) 0 [(0, .ref (ad 0)), (1, .int x1), (2, .int x2), (3, .int x3)] [] M (fX12_plan n0 x1 x2 x3 M) := by
  unfold fX12_plan
  refine b_iload_n hO dX12_plan_0 1 rfl rfl ?_
  refine b_iconst hO dX12_plan_1 ic_i_0 ?_
  refine b_iconst hO dX12_plan_2 ic_i_1 ?_
  refine b_aload_n hO dX12_plan_3 0 rfl rfl ?_
  refine b_get hO flX12_78 kLY_0 (v := .ref (ad 10)) rfl dX12_plan_4 ?_
  refine b_aload_n hO dX12_plan_7 0 rfl rfl ?_
  refine b_get hO flX12_51 kLY_0 (v := .int (gI _ 13)) rfl dX12_plan_8 ?_
  refine b_iald hO kLY_10 (n := 2) rfl dX12_plan_11 ?_
  refine b_ishl hO dX12_plan_12 ?_
  refine b_iconst hO dX12_plan_13 ic_i_1 ?_
  refine b_isub hO dX12_plan_14 ?_
  refine b_callSI hO mdX12_is w1561 w1560 (As := [.int _, .int _, .int _]) (st := []) (ctX12_is n0 hO.2.2.2.2.2.2.1 _ _ _ _) (Nat.le_of_ble_eq_true rfl) rfl rfl (Nat.le_of_ble_eq_true rfl) dX12_plan_15 (fun z15 => ?_)
  refine b_if_eq hO dX12_plan_18 (tgt := 45) (by decide) ?_ ?_
  · refine b_iconst hO dX12_plan_45 ic_i_m1 ?_
    exact b_iret hO dX12_plan_46
  · refine b_aload_n hO dX12_plan_21 0 rfl rfl ?_
    refine b_iload_n hO dX12_plan_22 2 rfl rfl ?_
    refine b_iconst hO dX12_plan_23 ic_i_0 ?_
    refine b_bipush hO dX12_plan_24 ic_b_20 ?_
    refine b_callVI hO mdX12_isAhead mvX12_isAhead w1749 (ci := 12) rfl rfl (by decide) kLY_0 (As := [.int _, .int _, .int _]) (st := []) (ctX12_isAhead n0 hO.2.2.2.2.2.2.1 _ _ _ _) (Nat.le_of_ble_eq_true rfl) rfl rfl (Nat.le_of_ble_eq_true rfl) dX12_plan_26 (fun z26 => ?_)
    refine b_if_eq hO dX12_plan_29 (tgt := 45) (by decide) ?_ ?_
    · refine b_iconst hO dX12_plan_45 ic_i_m1 ?_
      exact b_iret hO dX12_plan_46
    · refine b_iload_n hO dX12_plan_32 3 rfl rfl ?_
      refine b_iconst hO dX12_plan_33 ic_i_m1 ?_
      refine b_icmp_eq hO dX12_plan_34 (tgt := 47) (by decide) ?_ ?_
      · exact tfX12_plan_47 n0 hO _ _ _ _
      · refine b_aload_n hO dX12_plan_37 0 rfl rfl ?_
        refine b_iload_n hO dX12_plan_38 3 rfl rfl ?_
        refine b_callVI hO mdX12_isCorner mvX12_isCorner w1733 (ci := 12) rfl rfl (by decide) kLY_0 (As := [.int _]) (st := []) (ctX12_isCorner n0 hO.2.2.2.2.2.2.1 _ _) (Nat.le_of_ble_eq_true rfl) rfl rfl (Nat.le_of_ble_eq_true rfl) dX12_plan_39 (fun z39 => ?_)
        refine b_if_ne hO dX12_plan_42 (tgt := 47) (by decide) ?_ ?_
        · exact tfX12_plan_47 n0 hO _ _ _ _
        · refine b_iconst hO dX12_plan_45 ic_i_m1 ?_
          exact b_iret hO dX12_plan_46
theorem ctX12_plan (n0 : Nat) (hI : Inj LY ad) (x1 : Int32) (x2 : Int32) (x3 : Int32) (M : Mem) : CT l LY D cy ad yX12_plan cX12_plan 10 (some .int) 8 (QI LY D cy ad) [.ref (ad 0), .int x1, .int x2, .int x3] M (fX12_plan n0 x1 x2 x3 M) :=
  CT.mk LYok hI (by decide) (Nat.le_of_ble_eq_true rfl) (fun hO => tfX12_plan n0 hO x1 x2 x3 M)
/-! X12_evening -/
def fX12_evening_124 (n0 : Nat) (k27 : Int32 → Int32 → Int32 → Int32 → Int32 → Mem → Option (Int32 × Mem)) (k72 : Int32 → Int32 → Int32 → Int32 → Int32 → Int32 → Int32 → Int32 → Int32 → Mem → Option (Int32 × Mem)) (x1 : Int32) (x2 : Int32) (x3 : Int32) (x4 : Int32) (x5 : Int32) (x6 : Int32) (x8 : Int32) (x9 : Int32) (u0 : Int32) (M : Mem) : Option (Int32 × Mem) :=
  k72 x1 x2 x3 x4 x5 x6 u0 x8 (x9 + (1 : Int32)) M
def fX12_evening_110 (n0 : Nat) (k27 : Int32 → Int32 → Int32 → Int32 → Int32 → Mem → Option (Int32 × Mem)) (k72 : Int32 → Int32 → Int32 → Int32 → Int32 → Int32 → Int32 → Int32 → Int32 → Mem → Option (Int32 × Mem)) (x1 : Int32) (x2 : Int32) (x3 : Int32) (x4 : Int32) (x5 : Int32) (x6 : Int32) (x7 : Int32) (x9 : Int32) (u0 : Int32) (M : Mem) : Option (Int32 × Mem) :=
  if u0 = 0 then
    fX12_evening_124 n0 k27 k72 x1 x2 x3 x4 x5 x6 u0 x9 x7 M
  else
    fX12_evening_124 n0 k27 k72 x1 x2 x3 x4 x5 x6 u0 x9 x9 M
def fX12_evening_149 (n0 : Nat) (k27 : Int32 → Int32 → Int32 → Int32 → Int32 → Mem → Option (Int32 × Mem)) (x1 : Int32) (x2 : Int32) (x3 : Int32) (x4 : Int32) (x5 : Int32) (M : Mem) : Option (Int32 × Mem) :=
  k27 x1 x2 x3 x4 (x5 + (1 : Int32)) M
def fX12_evening_132 (n0 : Nat) (k27 : Int32 → Int32 → Int32 → Int32 → Int32 → Mem → Option (Int32 × Mem)) (x1 : Int32) (x2 : Int32) (x3 : Int32) (x4 : Int32) (x5 : Int32) (x7 : Int32) (M : Mem) : Option (Int32 × Mem) :=
  if x4 < x7 then
    fX12_evening_149 n0 k27 x1 x2 x5 x7 x5 M
  else
    fX12_evening_149 n0 k27 x1 x2 x3 x4 x5 M
def bX12_evening_72 (n0 : Nat) (k27 : Int32 → Int32 → Int32 → Int32 → Int32 → Mem → Option (Int32 × Mem)) (k72 : Int32 → Int32 → Int32 → Int32 → Int32 → Int32 → Int32 → Int32 → Int32 → Mem → Option (Int32 × Mem)) (x1 : Int32) (x2 : Int32) (x3 : Int32) (x4 : Int32) (x5 : Int32) (x6 : Int32) (x7 : Int32) (x8 : Int32) (x9 : Int32) (M : Mem) : Option (Int32 × Mem) :=
  (fX12_isAhead n0 x9 (1 : Int32) (60 : Int32) M).bind fun z78 =>
  if z78.1 = 0 then
    fX12_evening_132 n0 k27 x1 x2 x3 x4 x5 x7 z78.2
  else
    if x8 = 0 then
      fX12_evening_132 n0 k27 x1 x2 x3 x4 x5 x7 z78.2
    else
      (fX12_ticks n0 (1 : Int32) z78.2).bind fun z91 =>
      (fX12_hour n0 (1 : Int32) x1 z91).bind fun z97 =>
      if z97.1 = x6 then
        fX12_evening_110 n0 k27 k72 x1 x2 x3 x4 x5 x6 x7 x9 (1 : Int32) z97.2
      else
        fX12_evening_110 n0 k27 k72 x1 x2 x3 x4 x5 x6 x7 x9 (0 : Int32) z97.2
def fX12_evening_72 (n0 : Nat) (k27 : Int32 → Int32 → Int32 → Int32 → Int32 → Mem → Option (Int32 × Mem)) : Int32 → Int32 → Int32 → Int32 → Int32 → Int32 → Int32 → Int32 → Int32 → Mem → Option (Int32 × Mem) := loopN (bX12_evening_72 n0 k27) (fun _ _ _ _ _ _ _ _ _ _ => none) n0
def bX12_evening_27 (n0 : Nat) (k27 : Int32 → Int32 → Int32 → Int32 → Int32 → Mem → Option (Int32 × Mem)) (x1 : Int32) (x2 : Int32) (x3 : Int32) (x4 : Int32) (x5 : Int32) (M : Mem) : Option (Int32 × Mem) :=
  if oob (gI M 13) 2 then none else
  if (gA M 2 (Int32.toNatClampNeg (gI M 13))) ≤ x5 then
    if x2 = 0 then
      some (x3, M)
    else
      some (x4, M)
  else
    (fX12_copies n0 (1 : Int32) (0 : Int32) M).bind fun z44 =>
    (fX12_puts n0 (1 : Int32) x1 x5 z44).bind fun z52 =>
    (fX12_hour n0 (1 : Int32) x1 z52).bind fun z58 =>
    fX12_evening_72 n0 k27 x1 x2 x3 x4 x5 z58.1 (0 : Int32) (1 : Int32) (1 : Int32) z58.2
def fX12_evening_27 (n0 : Nat) : Int32 → Int32 → Int32 → Int32 → Int32 → Mem → Option (Int32 × Mem) := loopN (bX12_evening_27 n0) (fun _ _ _ _ _ _ => none) n0
def fX12_evening (n0 : Nat) (x1 : Int32) (x2 : Int32) (M : Mem) : Option (Int32 × Mem) :=
  (fX12_isCorner n0 x1 M).bind fun z2 =>
  if z2.1 = 0 then
    some ((-1 : Int32), z2.2)
  else
    (fX12_is n0 x2 (0 : Int32) (1 : Int32) z2.2).bind fun z11 =>
    if z11.1 = 0 then
      some ((-1 : Int32), z11.2)
    else
      fX12_evening_27 n0 x1 x2 (-1 : Int32) (-1 : Int32) (0 : Int32) z11.2
theorem tfX12_evening_124 (n0 : Nat) (hO : OKc p (rmL 6) s m args meth c LY D cy ad cX12_evening RX12 10 6 (some .int)) (k27 : Int32 → Int32 → Int32 → Int32 → Int32 → Mem → Option (Int32 × Mem)) (k72 : Int32 → Int32 → Int32 → Int32 → Int32 → Int32 → Int32 → Int32 → Int32 → Mem → Option (Int32 × Mem)) (hk27 : ∀ (x1 : Int32) (x2 : Int32) (x3 : Int32) (x4 : Int32) (x5 : Int32) (M : Mem), BL p l e (rmL 6) s m args below meth c LY D cy ad 10 (QI LY D cy ad) 27 [(0, .ref (ad 0)), (1, .int x1), (2, .int x2), (3, .int x3), (4, .int x4), (5, .int x5)] [] M (k27 x1 x2 x3 x4 x5 M)) (hk72 : ∀ (x1 : Int32) (x2 : Int32) (x3 : Int32) (x4 : Int32) (x5 : Int32) (x6 : Int32) (x7 : Int32) (x8 : Int32) (x9 : Int32) (M : Mem), BL p l e (rmL 6) s m args below meth c LY D cy ad 10 (QI LY D cy ad) 72 [(0, .ref (ad 0)), (1, .int x1), (2, .int x2), (3, .int x3), (4, .int x4), (5, .int x5), (6, .int x6), (7, .int x7), (8, .int x8), (9, .int x9)] [] M (k72 x1 x2 x3 x4 x5 x6 x7 x8 x9 M)) (x1 : Int32) (x2 : Int32) (x3 : Int32) (x4 : Int32) (x5 : Int32) (x6 : Int32) (x8 : Int32) (x9 : Int32) (u0 : Int32) (M : Mem) : BL p l e (rmL 6) s m args below meth c LY D cy ad 10 (QI LY D cy ad) 124 [(0, .ref (ad 0)), (1, .int x1), (2, .int x2), (3, .int x3), (4, .int x4), (5, .int x5), (6, .int x6), (8, .int x8), (9, .int x9)] [.int u0] M (fX12_evening_124 n0 k27 k72 x1 x2 x3 x4 x5 x6 x8 x9 u0 M) := by
  unfold fX12_evening_124
  refine b_istore hO dX12_evening_124 (by decide) (lv' := [(7, .int _), (0, .ref _), (1, .int _), (2, .int _), (3, .int _), (4, .int _), (5, .int _), (6, .int _), (8, .int _), (9, .int _)]) rfl ?_
  refine b_iinc hO dX12_evening_126 9 rfl ic_i_1 (by decide) (lv' := [(9, .int _), (7, .int _), (0, .ref _), (1, .int _), (2, .int _), (3, .int _), (4, .int _), (5, .int _), (6, .int _), (8, .int _)]) rfl ?_
  refine b_goto hO dX12_evening_129 (tgt := 72) (by decide) ?_
  refine b_sub [2, 3, 4, 5, 6, 7, 8, 1, 9, 0] rfl ?_
  exact hk72 _ _ _ _ _ _ _ _ _ _
theorem tfX12_evening_110 (n0 : Nat) (hO : OKc p (rmL 6) s m args meth c LY D cy ad cX12_evening RX12 10 6 (some .int)) (k27 : Int32 → Int32 → Int32 → Int32 → Int32 → Mem → Option (Int32 × Mem)) (k72 : Int32 → Int32 → Int32 → Int32 → Int32 → Int32 → Int32 → Int32 → Int32 → Mem → Option (Int32 × Mem)) (hk27 : ∀ (x1 : Int32) (x2 : Int32) (x3 : Int32) (x4 : Int32) (x5 : Int32) (M : Mem), BL p l e (rmL 6) s m args below meth c LY D cy ad 10 (QI LY D cy ad) 27 [(0, .ref (ad 0)), (1, .int x1), (2, .int x2), (3, .int x3), (4, .int x4), (5, .int x5)] [] M (k27 x1 x2 x3 x4 x5 M)) (hk72 : ∀ (x1 : Int32) (x2 : Int32) (x3 : Int32) (x4 : Int32) (x5 : Int32) (x6 : Int32) (x7 : Int32) (x8 : Int32) (x9 : Int32) (M : Mem), BL p l e (rmL 6) s m args below meth c LY D cy ad 10 (QI LY D cy ad) 72 [(0, .ref (ad 0)), (1, .int x1), (2, .int x2), (3, .int x3), (4, .int x4), (5, .int x5), (6, .int x6), (7, .int x7), (8, .int x8), (9, .int x9)] [] M (k72 x1 x2 x3 x4 x5 x6 x7 x8 x9 M)) (x1 : Int32) (x2 : Int32) (x3 : Int32) (x4 : Int32) (x5 : Int32) (x6 : Int32) (x7 : Int32) (x9 : Int32) (u0 : Int32) (M : Mem) : BL p l e (rmL 6) s m args below meth c LY D cy ad 10 (QI LY D cy ad) 110 [(0, .ref (ad 0)), (1, .int x1), (2, .int x2), (3, .int x3), (4, .int x4), (5, .int x5), (6, .int x6), (7, .int x7), (9, .int x9)] [.int u0] M (fX12_evening_110 n0 k27 k72 x1 x2 x3 x4 x5 x6 x7 x9 u0 M) := by
  unfold fX12_evening_110
  refine b_istore hO dX12_evening_110 (by decide) (lv' := [(8, .int _), (0, .ref _), (1, .int _), (2, .int _), (3, .int _), (4, .int _), (5, .int _), (6, .int _), (7, .int _), (9, .int _)]) rfl ?_
  refine b_iload hO dX12_evening_112 0 rfl ?_
  refine b_if_eq hO dX12_evening_114 (tgt := 122) (by decide) ?_ ?_
  · refine b_iload hO dX12_evening_122 8 rfl ?_
    refine b_sub [1, 2, 3, 4, 5, 6, 7, 0, 9] rfl ?_
    exact tfX12_evening_124 n0 hO k27 k72 hk27 hk72 _ _ _ _ _ _ _ _ _ _
  · refine b_iload hO dX12_evening_117 9 rfl ?_
    refine b_goto hO dX12_evening_119 (tgt := 124) (by decide) ?_
    refine b_sub [1, 2, 3, 4, 5, 6, 7, 0, 9] rfl ?_
    exact tfX12_evening_124 n0 hO k27 k72 hk27 hk72 _ _ _ _ _ _ _ _ _ _
theorem tfX12_evening_149 (n0 : Nat) (hO : OKc p (rmL 6) s m args meth c LY D cy ad cX12_evening RX12 10 6 (some .int)) (k27 : Int32 → Int32 → Int32 → Int32 → Int32 → Mem → Option (Int32 × Mem)) (hk27 : ∀ (x1 : Int32) (x2 : Int32) (x3 : Int32) (x4 : Int32) (x5 : Int32) (M : Mem), BL p l e (rmL 6) s m args below meth c LY D cy ad 10 (QI LY D cy ad) 27 [(0, .ref (ad 0)), (1, .int x1), (2, .int x2), (3, .int x3), (4, .int x4), (5, .int x5)] [] M (k27 x1 x2 x3 x4 x5 M)) (x1 : Int32) (x2 : Int32) (x3 : Int32) (x4 : Int32) (x5 : Int32) (M : Mem) : BL p l e (rmL 6) s m args below meth c LY D cy ad 10 (QI LY D cy ad) 149 [(0, .ref (ad 0)), (1, .int x1), (2, .int x2), (3, .int x3), (4, .int x4), (5, .int x5)] [] M (fX12_evening_149 n0 k27 x1 x2 x3 x4 x5 M) := by
  unfold fX12_evening_149
  refine b_iinc hO dX12_evening_149 5 rfl ic_i_1 (by decide) (lv' := [(5, .int _), (0, .ref _), (1, .int _), (2, .int _), (3, .int _), (4, .int _)]) rfl ?_
  refine b_goto hO dX12_evening_152 (tgt := 27) (by decide) ?_
  refine b_sub [1, 2, 3, 4, 5, 0] rfl ?_
  exact hk27 _ _ _ _ _ _
theorem tfX12_evening_132 (n0 : Nat) (hO : OKc p (rmL 6) s m args meth c LY D cy ad cX12_evening RX12 10 6 (some .int)) (k27 : Int32 → Int32 → Int32 → Int32 → Int32 → Mem → Option (Int32 × Mem)) (hk27 : ∀ (x1 : Int32) (x2 : Int32) (x3 : Int32) (x4 : Int32) (x5 : Int32) (M : Mem), BL p l e (rmL 6) s m args below meth c LY D cy ad 10 (QI LY D cy ad) 27 [(0, .ref (ad 0)), (1, .int x1), (2, .int x2), (3, .int x3), (4, .int x4), (5, .int x5)] [] M (k27 x1 x2 x3 x4 x5 M)) (x1 : Int32) (x2 : Int32) (x3 : Int32) (x4 : Int32) (x5 : Int32) (x7 : Int32) (M : Mem) : BL p l e (rmL 6) s m args below meth c LY D cy ad 10 (QI LY D cy ad) 132 [(0, .ref (ad 0)), (1, .int x1), (2, .int x2), (3, .int x3), (4, .int x4), (5, .int x5), (7, .int x7)] [] M (fX12_evening_132 n0 k27 x1 x2 x3 x4 x5 x7 M) := by
  unfold fX12_evening_132
  refine b_iload hO dX12_evening_132 6 rfl ?_
  refine b_iload hO dX12_evening_134 4 rfl ?_
  refine b_icmp_gt hO dX12_evening_136 (tgt := 142) (by decide) ?_ ?_
  · refine b_iload hO dX12_evening_142 6 rfl ?_
    refine b_istore hO dX12_evening_144 (by decide) (lv' := [(4, .int _), (0, .ref _), (1, .int _), (2, .int _), (3, .int _), (5, .int _), (7, .int _)]) rfl ?_
    refine b_iload hO dX12_evening_146 5 rfl ?_
    refine b_istore_n hO dX12_evening_148 rfl (by decide) (lv' := [(3, .int _), (4, .int _), (0, .ref _), (1, .int _), (2, .int _), (5, .int _), (7, .int _)]) rfl ?_
    refine b_sub [2, 3, 4, 0, 1, 5] rfl ?_
    exact tfX12_evening_149 n0 hO k27 hk27 _ _ _ _ _ _
  · refine b_goto hO dX12_evening_139 (tgt := 149) (by decide) ?_
    refine b_sub [0, 1, 2, 3, 4, 5] rfl ?_
    exact tfX12_evening_149 n0 hO k27 hk27 _ _ _ _ _ _
theorem tbX12_evening_72 (n0 : Nat) (hO : OKc p (rmL 6) s m args meth c LY D cy ad cX12_evening RX12 10 6 (some .int)) (k27 : Int32 → Int32 → Int32 → Int32 → Int32 → Mem → Option (Int32 × Mem)) (k72 : Int32 → Int32 → Int32 → Int32 → Int32 → Int32 → Int32 → Int32 → Int32 → Mem → Option (Int32 × Mem)) (hk27 : ∀ (x1 : Int32) (x2 : Int32) (x3 : Int32) (x4 : Int32) (x5 : Int32) (M : Mem), BL p l e (rmL 6) s m args below meth c LY D cy ad 10 (QI LY D cy ad) 27 [(0, .ref (ad 0)), (1, .int x1), (2, .int x2), (3, .int x3), (4, .int x4), (5, .int x5)] [] M (k27 x1 x2 x3 x4 x5 M)) (hk72 : ∀ (x1 : Int32) (x2 : Int32) (x3 : Int32) (x4 : Int32) (x5 : Int32) (x6 : Int32) (x7 : Int32) (x8 : Int32) (x9 : Int32) (M : Mem), BL p l e (rmL 6) s m args below meth c LY D cy ad 10 (QI LY D cy ad) 72 [(0, .ref (ad 0)), (1, .int x1), (2, .int x2), (3, .int x3), (4, .int x4), (5, .int x5), (6, .int x6), (7, .int x7), (8, .int x8), (9, .int x9)] [] M (k72 x1 x2 x3 x4 x5 x6 x7 x8 x9 M)) (x1 : Int32) (x2 : Int32) (x3 : Int32) (x4 : Int32) (x5 : Int32) (x6 : Int32) (x7 : Int32) (x8 : Int32) (x9 : Int32) (M : Mem) : BL p l e (rmL 6) s m args below meth c LY D cy ad 10 (QI LY D cy ad) 72 [(0, .ref (ad 0)), (1, .int x1), (2, .int x2), (3, .int x3), (4, .int x4), (5, .int x5), (6, .int x6), (7, .int x7), (8, .int x8), (9, .int x9)] [] M (bX12_evening_72 n0 k27 k72 x1 x2 x3 x4 x5 x6 x7 x8 x9 M) := by
  unfold bX12_evening_72
  refine b_aload_n hO dX12_evening_72 0 rfl rfl ?_
  refine b_iload hO dX12_evening_73 9 rfl ?_
  refine b_iconst hO dX12_evening_75 ic_i_1 ?_
  refine b_bipush hO dX12_evening_76 ic_b_60 ?_
  refine b_callVI hO mdX12_isAhead mvX12_isAhead w1749 (ci := 12) rfl rfl (by decide) kLY_0 (As := [.int _, .int _, .int _]) (st := []) (ctX12_isAhead n0 hO.2.2.2.2.2.2.1 _ _ _ _) (Nat.le_of_ble_eq_true rfl) rfl rfl (Nat.le_of_ble_eq_true rfl) dX12_evening_78 (fun z78 => ?_)
  refine b_if_eq hO dX12_evening_81 (tgt := 132) (by decide) ?_ ?_
  · refine b_sub [0, 1, 2, 3, 4, 5, 7] rfl ?_
    exact tfX12_evening_132 n0 hO k27 hk27 _ _ _ _ _ _ _
  · refine b_iload hO dX12_evening_84 8 rfl ?_
    refine b_if_eq hO dX12_evening_86 (tgt := 132) (by decide) ?_ ?_
    · refine b_sub [0, 1, 2, 3, 4, 5, 7] rfl ?_
      exact tfX12_evening_132 n0 hO k27 hk27 _ _ _ _ _ _ _
    · refine b_aload_n hO dX12_evening_89 0 rfl rfl ?_
      refine b_iconst hO dX12_evening_90 ic_i_1 ?_
      refine b_callVV hO mdX12_ticks mvX12_ticks w1757 (ci := 12) rfl rfl (by decide) kLY_0 (As := [.int _]) (st := []) (ctX12_ticks n0 hO.2.2.2.2.2.2.1 _ _) (Nat.le_of_ble_eq_true rfl) rfl rfl (Nat.le_of_ble_eq_true rfl) dX12_evening_91 (fun z91 => ?_)
      refine b_aload_n hO dX12_evening_94 0 rfl rfl ?_
      refine b_iconst hO dX12_evening_95 ic_i_1 ?_
      refine b_iload_n hO dX12_evening_96 1 rfl rfl ?_
      refine b_callVI hO mdX12_hour mvX12_hour w1657 (ci := 12) rfl rfl (by decide) kLY_0 (As := [.int _, .int _]) (st := []) (ctX12_hour n0 hO.2.2.2.2.2.2.1 _ _ _) (Nat.le_of_ble_eq_true rfl) rfl rfl (Nat.le_of_ble_eq_true rfl) dX12_evening_97 (fun z97 => ?_)
      refine b_iload hO dX12_evening_100 6 rfl ?_
      refine b_icmp_ne hO dX12_evening_102 (tgt := 109) (by decide) ?_ ?_
      · refine b_iconst hO dX12_evening_109 ic_i_0 ?_
        refine b_sub [0, 1, 2, 3, 4, 5, 6, 7, 9] rfl ?_
        exact tfX12_evening_110 n0 hO k27 k72 hk27 hk72 _ _ _ _ _ _ _ _ _ _
      · refine b_iconst hO dX12_evening_105 ic_i_1 ?_
        refine b_goto hO dX12_evening_106 (tgt := 110) (by decide) ?_
        refine b_sub [0, 1, 2, 3, 4, 5, 6, 7, 9] rfl ?_
        exact tfX12_evening_110 n0 hO k27 k72 hk27 hk72 _ _ _ _ _ _ _ _ _ _
theorem lX12_evening_72 (n0 : Nat) (hO : OKc p (rmL 6) s m args meth c LY D cy ad cX12_evening RX12 10 6 (some .int)) (k27 : Int32 → Int32 → Int32 → Int32 → Int32 → Mem → Option (Int32 × Mem)) (hk27 : ∀ (x1 : Int32) (x2 : Int32) (x3 : Int32) (x4 : Int32) (x5 : Int32) (M : Mem), BL p l e (rmL 6) s m args below meth c LY D cy ad 10 (QI LY D cy ad) 27 [(0, .ref (ad 0)), (1, .int x1), (2, .int x2), (3, .int x3), (4, .int x4), (5, .int x5)] [] M (k27 x1 x2 x3 x4 x5 M)) : ∀ (w : Nat) (x1 : Int32) (x2 : Int32) (x3 : Int32) (x4 : Int32) (x5 : Int32) (x6 : Int32) (x7 : Int32) (x8 : Int32) (x9 : Int32) (M : Mem), BL p l e (rmL 6) s m args below meth c LY D cy ad 10 (QI LY D cy ad) 72 [(0, .ref (ad 0)), (1, .int x1), (2, .int x2), (3, .int x3), (4, .int x4), (5, .int x5), (6, .int x6), (7, .int x7), (8, .int x8), (9, .int x9)] [] M (loopN (bX12_evening_72 n0 k27) (fun _ _ _ _ _ _ _ _ _ _ => none) w x1 x2 x3 x4 x5 x6 x7 x8 x9 M) := by
  intro w
  induction w with
  | zero =>
    intros
    exact b_none
  | succ w ih =>
    intro x1 x2 x3 x4 x5 x6 x7 x8 x9 M
    exact tbX12_evening_72 n0 hO k27 _ hk27 ih x1 x2 x3 x4 x5 x6 x7 x8 x9 M
theorem tfX12_evening_72 (n0 : Nat) (hO : OKc p (rmL 6) s m args meth c LY D cy ad cX12_evening RX12 10 6 (some .int)) (k27 : Int32 → Int32 → Int32 → Int32 → Int32 → Mem → Option (Int32 × Mem)) (hk27 : ∀ (x1 : Int32) (x2 : Int32) (x3 : Int32) (x4 : Int32) (x5 : Int32) (M : Mem), BL p l e (rmL 6) s m args below meth c LY D cy ad 10 (QI LY D cy ad) 27 [(0, .ref (ad 0)), (1, .int x1), (2, .int x2), (3, .int x3), (4, .int x4), (5, .int x5)] [] M (k27 x1 x2 x3 x4 x5 M)) (x1 : Int32) (x2 : Int32) (x3 : Int32) (x4 : Int32) (x5 : Int32) (x6 : Int32) (x7 : Int32) (x8 : Int32) (x9 : Int32) (M : Mem) : BL p l e (rmL 6) s m args below meth c LY D cy ad 10 (QI LY D cy ad) 72 [(0, .ref (ad 0)), (1, .int x1), (2, .int x2), (3, .int x3), (4, .int x4), (5, .int x5), (6, .int x6), (7, .int x7), (8, .int x8), (9, .int x9)] [] M (fX12_evening_72 n0 k27 x1 x2 x3 x4 x5 x6 x7 x8 x9 M) := lX12_evening_72 n0 hO k27 hk27 n0 x1 x2 x3 x4 x5 x6 x7 x8 x9 M
theorem tbX12_evening_27 (n0 : Nat) (hO : OKc p (rmL 6) s m args meth c LY D cy ad cX12_evening RX12 10 6 (some .int)) (k27 : Int32 → Int32 → Int32 → Int32 → Int32 → Mem → Option (Int32 × Mem)) (hk27 : ∀ (x1 : Int32) (x2 : Int32) (x3 : Int32) (x4 : Int32) (x5 : Int32) (M : Mem), BL p l e (rmL 6) s m args below meth c LY D cy ad 10 (QI LY D cy ad) 27 [(0, .ref (ad 0)), (1, .int x1), (2, .int x2), (3, .int x3), (4, .int x4), (5, .int x5)] [] M (k27 x1 x2 x3 x4 x5 M)) (x1 : Int32) (x2 : Int32) (x3 : Int32) (x4 : Int32) (x5 : Int32) (M : Mem) : BL p l e (rmL 6) s m args below meth c LY D cy ad 10 (QI LY D cy ad) 27 [(0, .ref (ad 0)), (1, .int x1), (2, .int x2), (3, .int x3), (4, .int x4), (5, .int x5)] [] M (bX12_evening_27 n0 k27 x1 x2 x3 x4 x5 M) := by
  unfold bX12_evening_27
  refine b_iload hO dX12_evening_27 5 rfl ?_
  refine b_aload_n hO dX12_evening_29 0 rfl rfl ?_
  refine b_get hO flX12_54 kLY_0 (v := .ref (ad 2)) rfl dX12_evening_30 ?_
  refine b_aload_n hO dX12_evening_33 0 rfl rfl ?_
  refine b_get hO flX12_51 kLY_0 (v := .int (gI _ 13)) rfl dX12_evening_34 ?_
  refine b_iald hO kLY_2 (n := 2) rfl dX12_evening_37 ?_
  refine b_icmp_ge hO dX12_evening_38 (tgt := 155) (by decide) ?_ ?_
  · refine b_iload_n hO dX12_evening_155 2 rfl rfl ?_
    refine b_if_ne hO dX12_evening_156 (tgt := 163) (by decide) ?_ ?_
    · refine b_iload hO dX12_evening_163 4 rfl ?_
      exact b_iret hO dX12_evening_165
    · refine b_iload_n hO dX12_evening_159 3 rfl rfl ?_
      refine b_goto hO dX12_evening_160 (tgt := 165) (by decide) ?_
      exact b_iret hO dX12_evening_165
  · refine b_aload_n hO dX12_evening_41 0 rfl rfl ?_
    refine b_iconst hO dX12_evening_42 ic_i_1 ?_
    refine b_iconst hO dX12_evening_43 ic_i_0 ?_
    refine b_callVV hO mdX12_copies mvX12_copies w1705 (ci := 12) rfl rfl (by decide) kLY_0 (As := [.int _, .int _]) (st := []) (ctX12_copies n0 hO.2.2.2.2.2.2.1 _ _ _) (Nat.le_of_ble_eq_true rfl) rfl rfl (Nat.le_of_ble_eq_true rfl) dX12_evening_44 (fun z44 => ?_)
    refine b_aload_n hO dX12_evening_47 0 rfl rfl ?_
    refine b_iconst hO dX12_evening_48 ic_i_1 ?_
    refine b_iload_n hO dX12_evening_49 1 rfl rfl ?_
    refine b_iload hO dX12_evening_50 5 rfl ?_
    refine b_callVV hO mdX12_puts mvX12_puts w1765 (ci := 12) rfl rfl (by decide) kLY_0 (As := [.int _, .int _, .int _]) (st := []) (ctX12_puts n0 hO.2.2.2.2.2.2.1 _ _ _ _) (Nat.le_of_ble_eq_true rfl) rfl rfl (Nat.le_of_ble_eq_true rfl) dX12_evening_52 (fun z52 => ?_)
    refine b_aload_n hO dX12_evening_55 0 rfl rfl ?_
    refine b_iconst hO dX12_evening_56 ic_i_1 ?_
    refine b_iload_n hO dX12_evening_57 1 rfl rfl ?_
    refine b_callVI hO mdX12_hour mvX12_hour w1657 (ci := 12) rfl rfl (by decide) kLY_0 (As := [.int _, .int _]) (st := []) (ctX12_hour n0 hO.2.2.2.2.2.2.1 _ _ _) (Nat.le_of_ble_eq_true rfl) rfl rfl (Nat.le_of_ble_eq_true rfl) dX12_evening_58 (fun z58 => ?_)
    refine b_istore hO dX12_evening_61 (by decide) (lv' := [(6, .int _), (0, .ref _), (1, .int _), (2, .int _), (3, .int _), (4, .int _), (5, .int _)]) rfl ?_
    refine b_iconst hO dX12_evening_63 ic_i_0 ?_
    refine b_istore hO dX12_evening_64 (by decide) (lv' := [(7, .int _), (6, .int _), (0, .ref _), (1, .int _), (2, .int _), (3, .int _), (4, .int _), (5, .int _)]) rfl ?_
    refine b_iconst hO dX12_evening_66 ic_i_1 ?_
    refine b_istore hO dX12_evening_67 (by decide) (lv' := [(8, .int _), (7, .int _), (6, .int _), (0, .ref _), (1, .int _), (2, .int _), (3, .int _), (4, .int _), (5, .int _)]) rfl ?_
    refine b_iconst hO dX12_evening_69 ic_i_1 ?_
    refine b_istore hO dX12_evening_70 (by decide) (lv' := [(9, .int _), (8, .int _), (7, .int _), (6, .int _), (0, .ref _), (1, .int _), (2, .int _), (3, .int _), (4, .int _), (5, .int _)]) rfl ?_
    refine b_sub [4, 5, 6, 7, 8, 9, 3, 2, 1, 0] rfl ?_
    exact tfX12_evening_72 n0 hO k27 hk27 _ _ _ _ _ _ _ _ _ _
theorem lX12_evening_27 (n0 : Nat) (hO : OKc p (rmL 6) s m args meth c LY D cy ad cX12_evening RX12 10 6 (some .int)) : ∀ (w : Nat) (x1 : Int32) (x2 : Int32) (x3 : Int32) (x4 : Int32) (x5 : Int32) (M : Mem), BL p l e (rmL 6) s m args below meth c LY D cy ad 10 (QI LY D cy ad) 27 [(0, .ref (ad 0)), (1, .int x1), (2, .int x2), (3, .int x3), (4, .int x4), (5, .int x5)] [] M (loopN (bX12_evening_27 n0) (fun _ _ _ _ _ _ => none) w x1 x2 x3 x4 x5 M) := by
  intro w
  induction w with
  | zero =>
    intros
    exact b_none
  | succ w ih =>
    intro x1 x2 x3 x4 x5 M
    exact tbX12_evening_27 n0 hO _ ih x1 x2 x3 x4 x5 M
theorem tfX12_evening_27 (n0 : Nat) (hO : OKc p (rmL 6) s m args meth c LY D cy ad cX12_evening RX12 10 6 (some .int)) (x1 : Int32) (x2 : Int32) (x3 : Int32) (x4 : Int32) (x5 : Int32) (M : Mem) : BL p l e (rmL 6) s m args below meth c LY D cy ad 10 (QI LY D cy ad) 27 [(0, .ref (ad 0)), (1, .int x1), (2, .int x2), (3, .int x3), (4, .int x4), (5, .int x5)] [] M (fX12_evening_27 n0 x1 x2 x3 x4 x5 M) := lX12_evening_27 n0 hO n0 x1 x2 x3 x4 x5 M
theorem tfX12_evening (n0 : Nat) (hO : OKc p (rmL 6) s m args meth c LY D cy ad cX12_evening RX12 10 6 (some .int)) (x1 : Int32) (x2 : Int32) (M : Mem) : BL p l e (rmL 6) s m args below meth c LY D cy ad 10 (QI LY D cy ad) 0 [(0, .ref (ad 0)), (1, .int x1), (2, .int x2)] [] M (fX12_evening n0 x1 x2 M) := by
  unfold fX12_evening
  refine b_aload_n hO dX12_evening_0 0 rfl rfl ?_
  refine b_iload_n hO dX12_evening_1 1 rfl rfl ?_
  refine b_callVI hO mdX12_isCorner mvX12_isCorner w1733 (ci := 12) rfl rfl (by decide) kLY_0 (As := [.int _]) (st := []) (ctX12_isCorner n0 hO.2.2.2.2.2.2.1 _ _) (Nat.le_of_ble_eq_true rfl) rfl rfl (Nat.le_of_ble_eq_true rfl) dX12_evening_2 (fun z2 => ?_)
  refine b_if_eq hO dX12_evening_5 (tgt := 17) (by decide) ?_ ?_
  · refine b_iconst hO dX12_evening_17 ic_i_m1 ?_
    exact b_iret hO dX12_evening_18
  · refine b_iload_n hO dX12_evening_8 2 rfl rfl ?_
    refine b_iconst hO dX12_evening_9 ic_i_0 ?_
    refine b_iconst hO dX12_evening_10 ic_i_1 ?_
    refine b_callSI hO mdX12_is w1561 w1560 (As := [.int _, .int _, .int _]) (st := []) (ctX12_is n0 hO.2.2.2.2.2.2.1 _ _ _ _) (Nat.le_of_ble_eq_true rfl) rfl rfl (Nat.le_of_ble_eq_true rfl) dX12_evening_11 (fun z11 => ?_)
    refine b_if_ne hO dX12_evening_14 (tgt := 19) (by decide) ?_ ?_
    · refine b_iconst hO dX12_evening_19 ic_i_m1 ?_
      refine b_istore_n hO dX12_evening_20 rfl (by decide) (lv' := [(3, .int _), (0, .ref _), (1, .int _), (2, .int _)]) rfl ?_
      refine b_iconst hO dX12_evening_21 ic_i_m1 ?_
      refine b_istore hO dX12_evening_22 (by decide) (lv' := [(4, .int _), (3, .int _), (0, .ref _), (1, .int _), (2, .int _)]) rfl ?_
      refine b_iconst hO dX12_evening_24 ic_i_0 ?_
      refine b_istore hO dX12_evening_25 (by decide) (lv' := [(5, .int _), (4, .int _), (3, .int _), (0, .ref _), (1, .int _), (2, .int _)]) rfl ?_
      refine b_sub [3, 4, 5, 2, 1, 0] rfl ?_
      exact tfX12_evening_27 n0 hO _ _ _ _ _ _
    · refine b_iconst hO dX12_evening_17 ic_i_m1 ?_
      exact b_iret hO dX12_evening_18
theorem ctX12_evening (n0 : Nat) (hI : Inj LY ad) (x1 : Int32) (x2 : Int32) (M : Mem) : CT l LY D cy ad yX12_evening cX12_evening 10 (some .int) 6 (QI LY D cy ad) [.ref (ad 0), .int x1, .int x2] M (fX12_evening n0 x1 x2 M) :=
  CT.mk LYok hI (by decide) (Nat.le_of_ble_eq_true rfl) (fun hO => tfX12_evening n0 hO x1 x2 M)
/-! X12_odds -/
def fX12_odds_220 (n0 : Nat) (k94 : Int32 → Int32 → Int32 → Int32 → Int32 → Int64 → Int32 → Mem → Option (Int64 × Mem)) (k117 : Int32 → Int32 → Int32 → Int32 → Int32 → Int64 → Int32 → Int64 → Int32 → Int32 → Mem → Option (Int64 × Mem)) (x1 : Int32) (x2 : Int32) (x3 : Int32) (x4 : Int32) (x5 : Int32) (y6 : Int64) (x8 : Int32) (x11 : Int32) (x12 : Int32) (v0 : Int64) (v1 : Int64) (M : Mem) : Option (Int64 × Mem) :=
  bnd (v0 * v1) fun y9_221 =>
  k117 x1 x2 x3 x4 x5 y6 x8 y9_221 x11 (x12 + (1 : Int32)) M
def fX12_odds_182 (n0 : Nat) (k94 : Int32 → Int32 → Int32 → Int32 → Int32 → Int64 → Int32 → Mem → Option (Int64 × Mem)) (k117 : Int32 → Int32 → Int32 → Int32 → Int32 → Int64 → Int32 → Int64 → Int32 → Int32 → Mem → Option (Int64 × Mem)) (x1 : Int32) (x2 : Int32) (x3 : Int32) (x4 : Int32) (x5 : Int32) (y6 : Int64) (x8 : Int32) (y9 : Int64) (x11 : Int32) (x12 : Int32) (x13 : Int32) (M : Mem) : Option (Int64 × Mem) :=
  if x4 ≤ x13 then
    if oob (gI M 13) 2 then none else
    fX12_odds_220 n0 k94 k117 x1 x2 x3 x4 x5 y6 x8 x11 x12 y9 ((((100 : Int32) - (gA M 13 (Int32.toNatClampNeg (gI M 13)))) * x4)).toInt64 M
  else
    if oob (gI M 13) 2 then none else
    fX12_odds_220 n0 k94 k117 x1 x2 x3 x4 x5 y6 x8 x11 x12 y9 ((gA M 13 (Int32.toNatClampNeg (gI M 13)))).toInt64 M
def fX12_odds_252 (n0 : Nat) (k94 : Int32 → Int32 → Int32 → Int32 → Int32 → Int64 → Int32 → Mem → Option (Int64 × Mem)) (x1 : Int32) (x2 : Int32) (x3 : Int32) (x4 : Int32) (x5 : Int32) (x8 : Int32) (v0 : Int64) (v1 : Int64) (M : Mem) : Option (Int64 × Mem) :=
  bnd (v0 + v1) fun y6_253 =>
  k94 x1 x2 x3 x4 x5 y6_253 (x8 + (1 : Int32)) M
def fX12_odds_246 (n0 : Nat) (k94 : Int32 → Int32 → Int32 → Int32 → Int32 → Int64 → Int32 → Mem → Option (Int64 × Mem)) (x1 : Int32) (x2 : Int32) (x3 : Int32) (x4 : Int32) (x5 : Int32) (x8 : Int32) (y9 : Int64) (v0 : Int64) (M : Mem) : Option (Int64 × Mem) :=
  fX12_odds_252 n0 k94 x1 x2 x3 x4 x5 x8 v0 y9 M
def bX12_odds_117 (n0 : Nat) (k94 : Int32 → Int32 → Int32 → Int32 → Int32 → Int64 → Int32 → Mem → Option (Int64 × Mem)) (k117 : Int32 → Int32 → Int32 → Int32 → Int32 → Int64 → Int32 → Int64 → Int32 → Int32 → Mem → Option (Int64 × Mem)) (x1 : Int32) (x2 : Int32) (x3 : Int32) (x4 : Int32) (x5 : Int32) (y6 : Int64) (x8 : Int32) (y9 : Int64) (x11 : Int32) (x12 : Int32) (M : Mem) : Option (Int64 × Mem) :=
  if x3 ≤ x12 then
    if x2 = (-1 : Int32) then
      fX12_odds_246 n0 k94 x1 x2 x3 x4 x5 x8 y9 y6 M
    else
      (fX12_hour n0 (1 : Int32) x1 M).bind fun z239 =>
      if z239.1 = x2 then
        fX12_odds_246 n0 k94 x1 x2 x3 x4 x5 x8 y9 y6 z239.2
      else
        fX12_odds_252 n0 k94 x1 x2 x3 x4 x5 x8 y6 (0 : Int64) z239.2
  else
    if (x4 + (1 : Int32)) = 0 then none else
    bnd (rem32 x11 (x4 + (1 : Int32))) fun x13_130 =>
    if (x4 + (1 : Int32)) = 0 then none else
    bnd (x11 / (x4 + (1 : Int32))) fun x11_139 =>
    (fX12_ticks n0 (1 : Int32) M).bind fun z143 =>
    if x4 ≤ x13_130 then
      fX12_odds_182 n0 k94 k117 x1 x2 x3 x4 x5 y6 x8 y9 x11_139 x12 x13_130 z143
    else
      if oob (gI z143 13) 2 then none else
      if (gA z143 2 (Int32.toNatClampNeg (gI z143 13))) = 0 then none else
      if oob (gI z143 13) 2 then none else
      if (gA z143 2 (Int32.toNatClampNeg (gI z143 13))) = 0 then none else
      (fX12_puts n0 (1 : Int32) (x13_130 / (gA z143 2 (Int32.toNatClampNeg (gI z143 13)))) (rem32 x13_130 (gA z143 2 (Int32.toNatClampNeg (gI z143 13)))) z143).bind fun z179 =>
      fX12_odds_182 n0 k94 k117 x1 x2 x3 x4 x5 y6 x8 y9 x11_139 x12 x13_130 z179
def fX12_odds_117 (n0 : Nat) (k94 : Int32 → Int32 → Int32 → Int32 → Int32 → Int64 → Int32 → Mem → Option (Int64 × Mem)) : Int32 → Int32 → Int32 → Int32 → Int32 → Int64 → Int32 → Int64 → Int32 → Int32 → Mem → Option (Int64 × Mem) := loopN (bX12_odds_117 n0 k94) (fun _ _ _ _ _ _ _ _ _ _ _ => none) n0
def bX12_odds_94 (n0 : Nat) (k94 : Int32 → Int32 → Int32 → Int32 → Int32 → Int64 → Int32 → Mem → Option (Int64 × Mem)) (x1 : Int32) (x2 : Int32) (x3 : Int32) (x4 : Int32) (x5 : Int32) (y6 : Int64) (x8 : Int32) (M : Mem) : Option (Int64 × Mem) :=
  if x5 ≤ x8 then
    some (y6, M)
  else
    (fX12_copies n0 (1 : Int32) (0 : Int32) M).bind fun z104 =>
    fX12_odds_117 n0 k94 x1 x2 x3 x4 x5 y6 x8 (1 : Int64) x8 (0 : Int32) z104
def fX12_odds_94 (n0 : Nat) : Int32 → Int32 → Int32 → Int32 → Int32 → Int64 → Int32 → Mem → Option (Int64 × Mem) := loopN (bX12_odds_94 n0) (fun _ _ _ _ _ _ _ _ => none) n0
def fX12_odds_86 (n0 : Nat) (x1 : Int32) (x2 : Int32) (x3 : Int32) (x4 : Int32) (u0 : Int32) (M : Mem) : Option (Int64 × Mem) :=
  fX12_odds_94 n0 x1 x2 x3 x4 u0 (0 : Int64) (0 : Int32) M
def fX12_odds (n0 : Nat) (x1 : Int32) (x2 : Int32) (x3 : Int32) (M : Mem) : Option (Int64 × Mem) :=
  (fX12_isCorner n0 x1 M).bind fun z2 =>
  if z2.1 = 0 then
    some ((-1 : Int64), z2.2)
  else
    if oob (gI z2.2 13) 2 then none else
    if (gA z2.2 2 (Int32.toNatClampNeg (gI z2.2 13))) = 0 then
      some ((-1 : Int64), z2.2)
    else
      (fX12_is n0 x2 (-1 : Int32) (23 : Int32) z2.2).bind fun z24 =>
      if z24.1 = 0 then
        some ((-1 : Int64), z24.2)
      else
        (fX12_isAhead n0 x3 (1 : Int32) (2 : Int32) z24.2).bind fun z34 =>
        if z34.1 = 0 then
          some ((-1 : Int64), z34.2)
        else
          if oob (gI z34.2 13) 2 then none else
          if oob (gI z34.2 13) 2 then none else
          bnd ((gA z34.2 5 (Int32.toNatClampNeg (gI z34.2 13))) * (gA z34.2 2 (Int32.toNatClampNeg (gI z34.2 13)))) fun x4_63 =>
          if x3 = (1 : Int32) then
            fX12_odds_86 n0 x1 x2 x3 x4_63 (x4_63 + (1 : Int32)) z34.2
          else
            fX12_odds_86 n0 x1 x2 x3 x4_63 ((x4_63 + (1 : Int32)) * (x4_63 + (1 : Int32))) z34.2
theorem tfX12_odds_220 (n0 : Nat) (hO : OKc p (rmL 6) s m args meth c LY D cy ad cX12_odds RX12 14 6 (some .long)) (k94 : Int32 → Int32 → Int32 → Int32 → Int32 → Int64 → Int32 → Mem → Option (Int64 × Mem)) (k117 : Int32 → Int32 → Int32 → Int32 → Int32 → Int64 → Int32 → Int64 → Int32 → Int32 → Mem → Option (Int64 × Mem)) (hk94 : ∀ (x1 : Int32) (x2 : Int32) (x3 : Int32) (x4 : Int32) (x5 : Int32) (y6 : Int64) (x8 : Int32) (M : Mem), BL p l e (rmL 6) s m args below meth c LY D cy ad 14 (QL LY D cy ad) 94 [(0, .ref (ad 0)), (1, .int x1), (2, .int x2), (3, .int x3), (4, .int x4), (5, .int x5), (6, .long y6), (8, .int x8)] [] M (k94 x1 x2 x3 x4 x5 y6 x8 M)) (hk117 : ∀ (x1 : Int32) (x2 : Int32) (x3 : Int32) (x4 : Int32) (x5 : Int32) (y6 : Int64) (x8 : Int32) (y9 : Int64) (x11 : Int32) (x12 : Int32) (M : Mem), BL p l e (rmL 6) s m args below meth c LY D cy ad 14 (QL LY D cy ad) 117 [(0, .ref (ad 0)), (1, .int x1), (2, .int x2), (3, .int x3), (4, .int x4), (5, .int x5), (6, .long y6), (8, .int x8), (9, .long y9), (11, .int x11), (12, .int x12)] [] M (k117 x1 x2 x3 x4 x5 y6 x8 y9 x11 x12 M)) (x1 : Int32) (x2 : Int32) (x3 : Int32) (x4 : Int32) (x5 : Int32) (y6 : Int64) (x8 : Int32) (x11 : Int32) (x12 : Int32) (v0 : Int64) (v1 : Int64) (M : Mem) : BL p l e (rmL 6) s m args below meth c LY D cy ad 14 (QL LY D cy ad) 220 [(0, .ref (ad 0)), (1, .int x1), (2, .int x2), (3, .int x3), (4, .int x4), (5, .int x5), (6, .long y6), (8, .int x8), (11, .int x11), (12, .int x12)] [.long v1, .long v0] M (fX12_odds_220 n0 k94 k117 x1 x2 x3 x4 x5 y6 x8 x11 x12 v0 v1 M) := by
  unfold fX12_odds_220
  refine b_lmul hO dX12_odds_220 ?_
  refine b_topL (fun y9_221 => ?_)
  refine b_lstore hO dX12_odds_221 (by decide) (lv' := [(9, .long _), (0, .ref _), (1, .int _), (2, .int _), (3, .int _), (4, .int _), (5, .int _), (6, .long _), (8, .int _), (11, .int _), (12, .int _)]) rfl ?_
  refine b_iinc hO dX12_odds_223 10 rfl ic_i_1 (by decide) (lv' := [(12, .int _), (9, .long _), (0, .ref _), (1, .int _), (2, .int _), (3, .int _), (4, .int _), (5, .int _), (6, .long _), (8, .int _), (11, .int _)]) rfl ?_
  refine b_goto hO dX12_odds_226 (tgt := 117) (by decide) ?_
  refine b_sub [2, 3, 4, 5, 6, 7, 8, 9, 1, 10, 0] rfl ?_
  exact hk117 _ _ _ _ _ _ _ _ _ _ _
theorem tfX12_odds_182 (n0 : Nat) (hO : OKc p (rmL 6) s m args meth c LY D cy ad cX12_odds RX12 14 6 (some .long)) (k94 : Int32 → Int32 → Int32 → Int32 → Int32 → Int64 → Int32 → Mem → Option (Int64 × Mem)) (k117 : Int32 → Int32 → Int32 → Int32 → Int32 → Int64 → Int32 → Int64 → Int32 → Int32 → Mem → Option (Int64 × Mem)) (hk94 : ∀ (x1 : Int32) (x2 : Int32) (x3 : Int32) (x4 : Int32) (x5 : Int32) (y6 : Int64) (x8 : Int32) (M : Mem), BL p l e (rmL 6) s m args below meth c LY D cy ad 14 (QL LY D cy ad) 94 [(0, .ref (ad 0)), (1, .int x1), (2, .int x2), (3, .int x3), (4, .int x4), (5, .int x5), (6, .long y6), (8, .int x8)] [] M (k94 x1 x2 x3 x4 x5 y6 x8 M)) (hk117 : ∀ (x1 : Int32) (x2 : Int32) (x3 : Int32) (x4 : Int32) (x5 : Int32) (y6 : Int64) (x8 : Int32) (y9 : Int64) (x11 : Int32) (x12 : Int32) (M : Mem), BL p l e (rmL 6) s m args below meth c LY D cy ad 14 (QL LY D cy ad) 117 [(0, .ref (ad 0)), (1, .int x1), (2, .int x2), (3, .int x3), (4, .int x4), (5, .int x5), (6, .long y6), (8, .int x8), (9, .long y9), (11, .int x11), (12, .int x12)] [] M (k117 x1 x2 x3 x4 x5 y6 x8 y9 x11 x12 M)) (x1 : Int32) (x2 : Int32) (x3 : Int32) (x4 : Int32) (x5 : Int32) (y6 : Int64) (x8 : Int32) (y9 : Int64) (x11 : Int32) (x12 : Int32) (x13 : Int32) (M : Mem) : BL p l e (rmL 6) s m args below meth c LY D cy ad 14 (QL LY D cy ad) 182 [(0, .ref (ad 0)), (1, .int x1), (2, .int x2), (3, .int x3), (4, .int x4), (5, .int x5), (6, .long y6), (8, .int x8), (9, .long y9), (11, .int x11), (12, .int x12), (13, .int x13)] [] M (fX12_odds_182 n0 k94 k117 x1 x2 x3 x4 x5 y6 x8 y9 x11 x12 x13 M) := by
  unfold fX12_odds_182
  refine b_lload hO dX12_odds_182 8 rfl ?_
  refine b_iload hO dX12_odds_184 11 rfl ?_
  refine b_iload hO dX12_odds_186 4 rfl ?_
  refine b_icmp_ge hO dX12_odds_188 (tgt := 204) (by decide) ?_ ?_
  · refine b_bipush hO dX12_odds_204 ic_b_100 ?_
    refine b_aload_n hO dX12_odds_206 0 rfl rfl ?_
    refine b_get hO flX12_87 kLY_0 (v := .ref (ad 13)) rfl dX12_odds_207 ?_
    refine b_aload_n hO dX12_odds_210 0 rfl rfl ?_
    refine b_get hO flX12_51 kLY_0 (v := .int (gI _ 13)) rfl dX12_odds_211 ?_
    refine b_iald hO kLY_13 (n := 2) rfl dX12_odds_214 ?_
    refine b_isub hO dX12_odds_215 ?_
    refine b_iload hO dX12_odds_216 4 rfl ?_
    refine b_imul hO dX12_odds_218 ?_
    refine b_i2l hO dX12_odds_219 ?_
    refine b_sub [0, 1, 2, 3, 4, 5, 6, 7, 9, 10] rfl ?_
    exact tfX12_odds_220 n0 hO k94 k117 hk94 hk117 _ _ _ _ _ _ _ _ _ _ _ _
  · refine b_aload_n hO dX12_odds_191 0 rfl rfl ?_
    refine b_get hO flX12_87 kLY_0 (v := .ref (ad 13)) rfl dX12_odds_192 ?_
    refine b_aload_n hO dX12_odds_195 0 rfl rfl ?_
    refine b_get hO flX12_51 kLY_0 (v := .int (gI _ 13)) rfl dX12_odds_196 ?_
    refine b_iald hO kLY_13 (n := 2) rfl dX12_odds_199 ?_
    refine b_i2l hO dX12_odds_200 ?_
    refine b_goto hO dX12_odds_201 (tgt := 220) (by decide) ?_
    refine b_sub [0, 1, 2, 3, 4, 5, 6, 7, 9, 10] rfl ?_
    exact tfX12_odds_220 n0 hO k94 k117 hk94 hk117 _ _ _ _ _ _ _ _ _ _ _ _
theorem tfX12_odds_252 (n0 : Nat) (hO : OKc p (rmL 6) s m args meth c LY D cy ad cX12_odds RX12 14 6 (some .long)) (k94 : Int32 → Int32 → Int32 → Int32 → Int32 → Int64 → Int32 → Mem → Option (Int64 × Mem)) (hk94 : ∀ (x1 : Int32) (x2 : Int32) (x3 : Int32) (x4 : Int32) (x5 : Int32) (y6 : Int64) (x8 : Int32) (M : Mem), BL p l e (rmL 6) s m args below meth c LY D cy ad 14 (QL LY D cy ad) 94 [(0, .ref (ad 0)), (1, .int x1), (2, .int x2), (3, .int x3), (4, .int x4), (5, .int x5), (6, .long y6), (8, .int x8)] [] M (k94 x1 x2 x3 x4 x5 y6 x8 M)) (x1 : Int32) (x2 : Int32) (x3 : Int32) (x4 : Int32) (x5 : Int32) (x8 : Int32) (v0 : Int64) (v1 : Int64) (M : Mem) : BL p l e (rmL 6) s m args below meth c LY D cy ad 14 (QL LY D cy ad) 252 [(0, .ref (ad 0)), (1, .int x1), (2, .int x2), (3, .int x3), (4, .int x4), (5, .int x5), (8, .int x8)] [.long v1, .long v0] M (fX12_odds_252 n0 k94 x1 x2 x3 x4 x5 x8 v0 v1 M) := by
  unfold fX12_odds_252
  refine b_ladd hO dX12_odds_252 ?_
  refine b_topL (fun y6_253 => ?_)
  refine b_lstore hO dX12_odds_253 (by decide) (lv' := [(6, .long _), (0, .ref _), (1, .int _), (2, .int _), (3, .int _), (4, .int _), (5, .int _), (8, .int _)]) rfl ?_
  refine b_iinc hO dX12_odds_255 7 rfl ic_i_1 (by decide) (lv' := [(8, .int _), (6, .long _), (0, .ref _), (1, .int _), (2, .int _), (3, .int _), (4, .int _), (5, .int _)]) rfl ?_
  refine b_goto hO dX12_odds_258 (tgt := 94) (by decide) ?_
  refine b_sub [2, 3, 4, 5, 6, 7, 1, 0] rfl ?_
  exact hk94 _ _ _ _ _ _ _ _
theorem tfX12_odds_246 (n0 : Nat) (hO : OKc p (rmL 6) s m args meth c LY D cy ad cX12_odds RX12 14 6 (some .long)) (k94 : Int32 → Int32 → Int32 → Int32 → Int32 → Int64 → Int32 → Mem → Option (Int64 × Mem)) (hk94 : ∀ (x1 : Int32) (x2 : Int32) (x3 : Int32) (x4 : Int32) (x5 : Int32) (y6 : Int64) (x8 : Int32) (M : Mem), BL p l e (rmL 6) s m args below meth c LY D cy ad 14 (QL LY D cy ad) 94 [(0, .ref (ad 0)), (1, .int x1), (2, .int x2), (3, .int x3), (4, .int x4), (5, .int x5), (6, .long y6), (8, .int x8)] [] M (k94 x1 x2 x3 x4 x5 y6 x8 M)) (x1 : Int32) (x2 : Int32) (x3 : Int32) (x4 : Int32) (x5 : Int32) (x8 : Int32) (y9 : Int64) (v0 : Int64) (M : Mem) : BL p l e (rmL 6) s m args below meth c LY D cy ad 14 (QL LY D cy ad) 246 [(0, .ref (ad 0)), (1, .int x1), (2, .int x2), (3, .int x3), (4, .int x4), (5, .int x5), (8, .int x8), (9, .long y9)] [.long v0] M (fX12_odds_246 n0 k94 x1 x2 x3 x4 x5 x8 y9 v0 M) := by
  unfold fX12_odds_246
  refine b_lload hO dX12_odds_246 7 rfl ?_
  refine b_goto hO dX12_odds_248 (tgt := 252) (by decide) ?_
  refine b_sub [0, 1, 2, 3, 4, 5, 6] rfl ?_
  exact tfX12_odds_252 n0 hO k94 hk94 _ _ _ _ _ _ _ _ _
theorem tbX12_odds_117 (n0 : Nat) (hO : OKc p (rmL 6) s m args meth c LY D cy ad cX12_odds RX12 14 6 (some .long)) (k94 : Int32 → Int32 → Int32 → Int32 → Int32 → Int64 → Int32 → Mem → Option (Int64 × Mem)) (k117 : Int32 → Int32 → Int32 → Int32 → Int32 → Int64 → Int32 → Int64 → Int32 → Int32 → Mem → Option (Int64 × Mem)) (hk94 : ∀ (x1 : Int32) (x2 : Int32) (x3 : Int32) (x4 : Int32) (x5 : Int32) (y6 : Int64) (x8 : Int32) (M : Mem), BL p l e (rmL 6) s m args below meth c LY D cy ad 14 (QL LY D cy ad) 94 [(0, .ref (ad 0)), (1, .int x1), (2, .int x2), (3, .int x3), (4, .int x4), (5, .int x5), (6, .long y6), (8, .int x8)] [] M (k94 x1 x2 x3 x4 x5 y6 x8 M)) (hk117 : ∀ (x1 : Int32) (x2 : Int32) (x3 : Int32) (x4 : Int32) (x5 : Int32) (y6 : Int64) (x8 : Int32) (y9 : Int64) (x11 : Int32) (x12 : Int32) (M : Mem), BL p l e (rmL 6) s m args below meth c LY D cy ad 14 (QL LY D cy ad) 117 [(0, .ref (ad 0)), (1, .int x1), (2, .int x2), (3, .int x3), (4, .int x4), (5, .int x5), (6, .long y6), (8, .int x8), (9, .long y9), (11, .int x11), (12, .int x12)] [] M (k117 x1 x2 x3 x4 x5 y6 x8 y9 x11 x12 M)) (x1 : Int32) (x2 : Int32) (x3 : Int32) (x4 : Int32) (x5 : Int32) (y6 : Int64) (x8 : Int32) (y9 : Int64) (x11 : Int32) (x12 : Int32) (M : Mem) : BL p l e (rmL 6) s m args below meth c LY D cy ad 14 (QL LY D cy ad) 117 [(0, .ref (ad 0)), (1, .int x1), (2, .int x2), (3, .int x3), (4, .int x4), (5, .int x5), (6, .long y6), (8, .int x8), (9, .long y9), (11, .int x11), (12, .int x12)] [] M (bX12_odds_117 n0 k94 k117 x1 x2 x3 x4 x5 y6 x8 y9 x11 x12 M) := by
  unfold bX12_odds_117
  refine b_iload hO dX12_odds_117 10 rfl ?_
  refine b_iload_n hO dX12_odds_119 3 rfl rfl ?_
  refine b_icmp_ge hO dX12_odds_120 (tgt := 229) (by decide) ?_ ?_
  · refine b_lload hO dX12_odds_229 6 rfl ?_
    refine b_iload_n hO dX12_odds_231 2 rfl rfl ?_
    refine b_iconst hO dX12_odds_232 ic_i_m1 ?_
    refine b_icmp_eq hO dX12_odds_233 (tgt := 246) (by decide) ?_ ?_
    · refine b_sub [0, 1, 2, 3, 4, 5, 7, 8] rfl ?_
      exact tfX12_odds_246 n0 hO k94 hk94 _ _ _ _ _ _ _ _ _
    · refine b_aload_n hO dX12_odds_236 0 rfl rfl ?_
      refine b_iconst hO dX12_odds_237 ic_i_1 ?_
      refine b_iload_n hO dX12_odds_238 1 rfl rfl ?_
      refine b_callVI hO mdX12_hour mvX12_hour w1657 (ci := 12) rfl rfl (by decide) kLY_0 (As := [.int _, .int _]) (st := [.long _]) (ctX12_hour n0 hO.2.2.2.2.2.2.1 _ _ _) (Nat.le_of_ble_eq_true rfl) rfl rfl (Nat.le_of_ble_eq_true rfl) dX12_odds_239 (fun z239 => ?_)
      refine b_iload_n hO dX12_odds_242 2 rfl rfl ?_
      refine b_icmp_ne hO dX12_odds_243 (tgt := 251) (by decide) ?_ ?_
      · refine b_lconst hO dX12_odds_251 (v := 0) rfl ?_
        refine b_sub [0, 1, 2, 3, 4, 5, 7] rfl ?_
        exact tfX12_odds_252 n0 hO k94 hk94 _ _ _ _ _ _ _ _ _
      · refine b_sub [0, 1, 2, 3, 4, 5, 7, 8] rfl ?_
        exact tfX12_odds_246 n0 hO k94 hk94 _ _ _ _ _ _ _ _ _
  · refine b_iload hO dX12_odds_123 9 rfl ?_
    refine b_iload hO dX12_odds_125 4 rfl ?_
    refine b_iconst hO dX12_odds_127 ic_i_1 ?_
    refine b_iadd hO dX12_odds_128 ?_
    refine b_irem hO dX12_odds_129 ?_
    refine b_topI (fun x13_130 => ?_)
    refine b_istore hO dX12_odds_130 (by decide) (lv' := [(13, .int _), (0, .ref _), (1, .int _), (2, .int _), (3, .int _), (4, .int _), (5, .int _), (6, .long _), (8, .int _), (9, .long _), (11, .int _), (12, .int _)]) rfl ?_
    refine b_iload hO dX12_odds_132 10 rfl ?_
    refine b_iload hO dX12_odds_134 5 rfl ?_
    refine b_iconst hO dX12_odds_136 ic_i_1 ?_
    refine b_iadd hO dX12_odds_137 ?_
    refine b_idiv hO dX12_odds_138 ?_
    refine b_topI (fun x11_139 => ?_)
    refine b_istore hO dX12_odds_139 (by decide) (lv' := [(11, .int _), (13, .int _), (0, .ref _), (1, .int _), (2, .int _), (3, .int _), (4, .int _), (5, .int _), (6, .long _), (8, .int _), (9, .long _), (12, .int _)]) rfl ?_
    refine b_aload_n hO dX12_odds_141 2 rfl rfl ?_
    refine b_iconst hO dX12_odds_142 ic_i_1 ?_
    refine b_callVV hO mdX12_ticks mvX12_ticks w1757 (ci := 12) rfl rfl (by decide) kLY_0 (As := [.int _]) (st := []) (ctX12_ticks n0 hO.2.2.2.2.2.2.1 _ _) (Nat.le_of_ble_eq_true rfl) rfl rfl (Nat.le_of_ble_eq_true rfl) dX12_odds_143 (fun z143 => ?_)
    refine b_iload hO dX12_odds_146 1 rfl ?_
    refine b_iload hO dX12_odds_148 6 rfl ?_
    refine b_icmp_ge hO dX12_odds_150 (tgt := 182) (by decide) ?_ ?_
    · refine b_sub [2, 3, 4, 5, 6, 7, 8, 9, 10, 0, 11, 1] rfl ?_
      exact tfX12_odds_182 n0 hO k94 k117 hk94 hk117 _ _ _ _ _ _ _ _ _ _ _ _
    · refine b_aload_n hO dX12_odds_153 2 rfl rfl ?_
      refine b_iconst hO dX12_odds_154 ic_i_1 ?_
      refine b_iload hO dX12_odds_155 1 rfl ?_
      refine b_aload_n hO dX12_odds_157 2 rfl rfl ?_
      refine b_get hO flX12_54 kLY_0 (v := .ref (ad 2)) rfl dX12_odds_158 ?_
      refine b_aload_n hO dX12_odds_161 2 rfl rfl ?_
      refine b_get hO flX12_51 kLY_0 (v := .int (gI _ 13)) rfl dX12_odds_162 ?_
      refine b_iald hO kLY_2 (n := 2) rfl dX12_odds_165 ?_
      refine b_idiv hO dX12_odds_166 ?_
      refine b_iload hO dX12_odds_167 1 rfl ?_
      refine b_aload_n hO dX12_odds_169 2 rfl rfl ?_
      refine b_get hO flX12_54 kLY_0 (v := .ref (ad 2)) rfl dX12_odds_170 ?_
      refine b_aload_n hO dX12_odds_173 2 rfl rfl ?_
      refine b_get hO flX12_51 kLY_0 (v := .int (gI _ 13)) rfl dX12_odds_174 ?_
      refine b_iald hO kLY_2 (n := 2) rfl dX12_odds_177 ?_
      refine b_irem hO dX12_odds_178 ?_
      refine b_callVV hO mdX12_puts mvX12_puts w1765 (ci := 12) rfl rfl (by decide) kLY_0 (As := [.int _, .int _, .int _]) (st := []) (ctX12_puts n0 hO.2.2.2.2.2.2.1 _ _ _ _) (Nat.le_of_ble_eq_true rfl) rfl rfl (Nat.le_of_ble_eq_true rfl) dX12_odds_179 (fun z179 => ?_)
      refine b_sub [2, 3, 4, 5, 6, 7, 8, 9, 10, 0, 11, 1] rfl ?_
      exact tfX12_odds_182 n0 hO k94 k117 hk94 hk117 _ _ _ _ _ _ _ _ _ _ _ _
theorem lX12_odds_117 (n0 : Nat) (hO : OKc p (rmL 6) s m args meth c LY D cy ad cX12_odds RX12 14 6 (some .long)) (k94 : Int32 → Int32 → Int32 → Int32 → Int32 → Int64 → Int32 → Mem → Option (Int64 × Mem)) (hk94 : ∀ (x1 : Int32) (x2 : Int32) (x3 : Int32) (x4 : Int32) (x5 : Int32) (y6 : Int64) (x8 : Int32) (M : Mem), BL p l e (rmL 6) s m args below meth c LY D cy ad 14 (QL LY D cy ad) 94 [(0, .ref (ad 0)), (1, .int x1), (2, .int x2), (3, .int x3), (4, .int x4), (5, .int x5), (6, .long y6), (8, .int x8)] [] M (k94 x1 x2 x3 x4 x5 y6 x8 M)) : ∀ (w : Nat) (x1 : Int32) (x2 : Int32) (x3 : Int32) (x4 : Int32) (x5 : Int32) (y6 : Int64) (x8 : Int32) (y9 : Int64) (x11 : Int32) (x12 : Int32) (M : Mem), BL p l e (rmL 6) s m args below meth c LY D cy ad 14 (QL LY D cy ad) 117 [(0, .ref (ad 0)), (1, .int x1), (2, .int x2), (3, .int x3), (4, .int x4), (5, .int x5), (6, .long y6), (8, .int x8), (9, .long y9), (11, .int x11), (12, .int x12)] [] M (loopN (bX12_odds_117 n0 k94) (fun _ _ _ _ _ _ _ _ _ _ _ => none) w x1 x2 x3 x4 x5 y6 x8 y9 x11 x12 M) := by
  intro w
  induction w with
  | zero =>
    intros
    exact b_none
  | succ w ih =>
    intro x1 x2 x3 x4 x5 y6 x8 y9 x11 x12 M
    exact tbX12_odds_117 n0 hO k94 _ hk94 ih x1 x2 x3 x4 x5 y6 x8 y9 x11 x12 M
theorem tfX12_odds_117 (n0 : Nat) (hO : OKc p (rmL 6) s m args meth c LY D cy ad cX12_odds RX12 14 6 (some .long)) (k94 : Int32 → Int32 → Int32 → Int32 → Int32 → Int64 → Int32 → Mem → Option (Int64 × Mem)) (hk94 : ∀ (x1 : Int32) (x2 : Int32) (x3 : Int32) (x4 : Int32) (x5 : Int32) (y6 : Int64) (x8 : Int32) (M : Mem), BL p l e (rmL 6) s m args below meth c LY D cy ad 14 (QL LY D cy ad) 94 [(0, .ref (ad 0)), (1, .int x1), (2, .int x2), (3, .int x3), (4, .int x4), (5, .int x5), (6, .long y6), (8, .int x8)] [] M (k94 x1 x2 x3 x4 x5 y6 x8 M)) (x1 : Int32) (x2 : Int32) (x3 : Int32) (x4 : Int32) (x5 : Int32) (y6 : Int64) (x8 : Int32) (y9 : Int64) (x11 : Int32) (x12 : Int32) (M : Mem) : BL p l e (rmL 6) s m args below meth c LY D cy ad 14 (QL LY D cy ad) 117 [(0, .ref (ad 0)), (1, .int x1), (2, .int x2), (3, .int x3), (4, .int x4), (5, .int x5), (6, .long y6), (8, .int x8), (9, .long y9), (11, .int x11), (12, .int x12)] [] M (fX12_odds_117 n0 k94 x1 x2 x3 x4 x5 y6 x8 y9 x11 x12 M) := lX12_odds_117 n0 hO k94 hk94 n0 x1 x2 x3 x4 x5 y6 x8 y9 x11 x12 M
theorem tbX12_odds_94 (n0 : Nat) (hO : OKc p (rmL 6) s m args meth c LY D cy ad cX12_odds RX12 14 6 (some .long)) (k94 : Int32 → Int32 → Int32 → Int32 → Int32 → Int64 → Int32 → Mem → Option (Int64 × Mem)) (hk94 : ∀ (x1 : Int32) (x2 : Int32) (x3 : Int32) (x4 : Int32) (x5 : Int32) (y6 : Int64) (x8 : Int32) (M : Mem), BL p l e (rmL 6) s m args below meth c LY D cy ad 14 (QL LY D cy ad) 94 [(0, .ref (ad 0)), (1, .int x1), (2, .int x2), (3, .int x3), (4, .int x4), (5, .int x5), (6, .long y6), (8, .int x8)] [] M (k94 x1 x2 x3 x4 x5 y6 x8 M)) (x1 : Int32) (x2 : Int32) (x3 : Int32) (x4 : Int32) (x5 : Int32) (y6 : Int64) (x8 : Int32) (M : Mem) : BL p l e (rmL 6) s m args below meth c LY D cy ad 14 (QL LY D cy ad) 94 [(0, .ref (ad 0)), (1, .int x1), (2, .int x2), (3, .int x3), (4, .int x4), (5, .int x5), (6, .long y6), (8, .int x8)] [] M (bX12_odds_94 n0 k94 x1 x2 x3 x4 x5 y6 x8 M) := by
  unfold bX12_odds_94
  refine b_iload hO dX12_odds_94 7 rfl ?_
  refine b_iload hO dX12_odds_96 5 rfl ?_
  refine b_icmp_ge hO dX12_odds_98 (tgt := 261) (by decide) ?_ ?_
  · refine b_lload hO dX12_odds_261 6 rfl ?_
    exact b_lret hO dX12_odds_263
  · refine b_aload_n hO dX12_odds_101 0 rfl rfl ?_
    refine b_iconst hO dX12_odds_102 ic_i_1 ?_
    refine b_iconst hO dX12_odds_103 ic_i_0 ?_
    refine b_callVV hO mdX12_copies mvX12_copies w1705 (ci := 12) rfl rfl (by decide) kLY_0 (As := [.int _, .int _]) (st := []) (ctX12_copies n0 hO.2.2.2.2.2.2.1 _ _ _) (Nat.le_of_ble_eq_true rfl) rfl rfl (Nat.le_of_ble_eq_true rfl) dX12_odds_104 (fun z104 => ?_)
    refine b_lconst hO dX12_odds_107 (v := 1) rfl ?_
    refine b_lstore hO dX12_odds_108 (by decide) (lv' := [(9, .long _), (0, .ref _), (1, .int _), (2, .int _), (3, .int _), (4, .int _), (5, .int _), (6, .long _), (8, .int _)]) rfl ?_
    refine b_iload hO dX12_odds_110 8 rfl ?_
    refine b_istore hO dX12_odds_112 (by decide) (lv' := [(11, .int _), (9, .long _), (0, .ref _), (1, .int _), (2, .int _), (3, .int _), (4, .int _), (5, .int _), (6, .long _), (8, .int _)]) rfl ?_
    refine b_iconst hO dX12_odds_114 ic_i_0 ?_
    refine b_istore hO dX12_odds_115 (by decide) (lv' := [(12, .int _), (11, .int _), (9, .long _), (0, .ref _), (1, .int _), (2, .int _), (3, .int _), (4, .int _), (5, .int _), (6, .long _), (8, .int _)]) rfl ?_
    refine b_sub [3, 4, 5, 6, 7, 8, 9, 10, 2, 1, 0] rfl ?_
    exact tfX12_odds_117 n0 hO k94 hk94 _ _ _ _ _ _ _ _ _ _ _
theorem lX12_odds_94 (n0 : Nat) (hO : OKc p (rmL 6) s m args meth c LY D cy ad cX12_odds RX12 14 6 (some .long)) : ∀ (w : Nat) (x1 : Int32) (x2 : Int32) (x3 : Int32) (x4 : Int32) (x5 : Int32) (y6 : Int64) (x8 : Int32) (M : Mem), BL p l e (rmL 6) s m args below meth c LY D cy ad 14 (QL LY D cy ad) 94 [(0, .ref (ad 0)), (1, .int x1), (2, .int x2), (3, .int x3), (4, .int x4), (5, .int x5), (6, .long y6), (8, .int x8)] [] M (loopN (bX12_odds_94 n0) (fun _ _ _ _ _ _ _ _ => none) w x1 x2 x3 x4 x5 y6 x8 M) := by
  intro w
  induction w with
  | zero =>
    intros
    exact b_none
  | succ w ih =>
    intro x1 x2 x3 x4 x5 y6 x8 M
    exact tbX12_odds_94 n0 hO _ ih x1 x2 x3 x4 x5 y6 x8 M
theorem tfX12_odds_94 (n0 : Nat) (hO : OKc p (rmL 6) s m args meth c LY D cy ad cX12_odds RX12 14 6 (some .long)) (x1 : Int32) (x2 : Int32) (x3 : Int32) (x4 : Int32) (x5 : Int32) (y6 : Int64) (x8 : Int32) (M : Mem) : BL p l e (rmL 6) s m args below meth c LY D cy ad 14 (QL LY D cy ad) 94 [(0, .ref (ad 0)), (1, .int x1), (2, .int x2), (3, .int x3), (4, .int x4), (5, .int x5), (6, .long y6), (8, .int x8)] [] M (fX12_odds_94 n0 x1 x2 x3 x4 x5 y6 x8 M) := lX12_odds_94 n0 hO n0 x1 x2 x3 x4 x5 y6 x8 M
theorem tfX12_odds_86 (n0 : Nat) (hO : OKc p (rmL 6) s m args meth c LY D cy ad cX12_odds RX12 14 6 (some .long)) (x1 : Int32) (x2 : Int32) (x3 : Int32) (x4 : Int32) (u0 : Int32) (M : Mem) : BL p l e (rmL 6) s m args below meth c LY D cy ad 14 (QL LY D cy ad) 86 [(0, .ref (ad 0)), (1, .int x1), (2, .int x2), (3, .int x3), (4, .int x4)] [.int u0] M (fX12_odds_86 n0 x1 x2 x3 x4 u0 M) := by
  unfold fX12_odds_86
  refine b_istore hO dX12_odds_86 (by decide) (lv' := [(5, .int _), (0, .ref _), (1, .int _), (2, .int _), (3, .int _), (4, .int _)]) rfl ?_
  refine b_lconst hO dX12_odds_88 (v := 0) rfl ?_
  refine b_lstore hO dX12_odds_89 (by decide) (lv' := [(6, .long _), (5, .int _), (0, .ref _), (1, .int _), (2, .int _), (3, .int _), (4, .int _)]) rfl ?_
  refine b_iconst hO dX12_odds_91 ic_i_0 ?_
  refine b_istore hO dX12_odds_92 (by decide) (lv' := [(8, .int _), (6, .long _), (5, .int _), (0, .ref _), (1, .int _), (2, .int _), (3, .int _), (4, .int _)]) rfl ?_
  refine b_sub [3, 4, 5, 6, 7, 2, 1, 0] rfl ?_
  exact tfX12_odds_94 n0 hO _ _ _ _ _ _ _ _
theorem tfX12_odds (n0 : Nat) (hO : OKc p (rmL 6) s m args meth c LY D cy ad cX12_odds RX12 14 6 (some .long)) (x1 : Int32) (x2 : Int32) (x3 : Int32) (M : Mem) : BL p l e (rmL 6) s m args below meth c LY D cy ad 14 (QL LY D cy ad) 0 [(0, .ref (ad 0)), (1, .int x1), (2, .int x2), (3, .int x3)] [] M (fX12_odds n0 x1 x2 x3 M) := by
  unfold fX12_odds
  refine b_aload_n hO dX12_odds_0 0 rfl rfl ?_
  refine b_iload_n hO dX12_odds_1 1 rfl rfl ?_
  refine b_callVI hO mdX12_isCorner mvX12_isCorner w1733 (ci := 12) rfl rfl (by decide) kLY_0 (As := [.int _]) (st := []) (ctX12_isCorner n0 hO.2.2.2.2.2.2.1 _ _) (Nat.le_of_ble_eq_true rfl) rfl rfl (Nat.le_of_ble_eq_true rfl) dX12_odds_2 (fun z2 => ?_)
  refine b_if_eq hO dX12_odds_5 (tgt := 40) (by decide) ?_ ?_
  · refine b_ldc2 hO w1793 dX12_odds_40 ?_
    exact b_lret hO dX12_odds_43
  · refine b_aload_n hO dX12_odds_8 0 rfl rfl ?_
    refine b_get hO flX12_54 kLY_0 (v := .ref (ad 2)) rfl dX12_odds_9 ?_
    refine b_aload_n hO dX12_odds_12 0 rfl rfl ?_
    refine b_get hO flX12_51 kLY_0 (v := .int (gI _ 13)) rfl dX12_odds_13 ?_
    refine b_iald hO kLY_2 (n := 2) rfl dX12_odds_16 ?_
    refine b_if_eq hO dX12_odds_17 (tgt := 40) (by decide) ?_ ?_
    · refine b_ldc2 hO w1793 dX12_odds_40 ?_
      exact b_lret hO dX12_odds_43
    · refine b_iload_n hO dX12_odds_20 2 rfl rfl ?_
      refine b_iconst hO dX12_odds_21 ic_i_m1 ?_
      refine b_bipush hO dX12_odds_22 ic_b_23 ?_
      refine b_callSI hO mdX12_is w1561 w1560 (As := [.int _, .int _, .int _]) (st := []) (ctX12_is n0 hO.2.2.2.2.2.2.1 _ _ _ _) (Nat.le_of_ble_eq_true rfl) rfl rfl (Nat.le_of_ble_eq_true rfl) dX12_odds_24 (fun z24 => ?_)
      refine b_if_eq hO dX12_odds_27 (tgt := 40) (by decide) ?_ ?_
      · refine b_ldc2 hO w1793 dX12_odds_40 ?_
        exact b_lret hO dX12_odds_43
      · refine b_aload_n hO dX12_odds_30 0 rfl rfl ?_
        refine b_iload_n hO dX12_odds_31 3 rfl rfl ?_
        refine b_iconst hO dX12_odds_32 ic_i_1 ?_
        refine b_iconst hO dX12_odds_33 ic_i_2 ?_
        refine b_callVI hO mdX12_isAhead mvX12_isAhead w1749 (ci := 12) rfl rfl (by decide) kLY_0 (As := [.int _, .int _, .int _]) (st := []) (ctX12_isAhead n0 hO.2.2.2.2.2.2.1 _ _ _ _) (Nat.le_of_ble_eq_true rfl) rfl rfl (Nat.le_of_ble_eq_true rfl) dX12_odds_34 (fun z34 => ?_)
        refine b_if_ne hO dX12_odds_37 (tgt := 44) (by decide) ?_ ?_
        · refine b_aload_n hO dX12_odds_44 0 rfl rfl ?_
          refine b_get hO flX12_63 kLY_0 (v := .ref (ad 5)) rfl dX12_odds_45 ?_
          refine b_aload_n hO dX12_odds_48 0 rfl rfl ?_
          refine b_get hO flX12_51 kLY_0 (v := .int (gI _ 13)) rfl dX12_odds_49 ?_
          refine b_iald hO kLY_5 (n := 2) rfl dX12_odds_52 ?_
          refine b_aload_n hO dX12_odds_53 0 rfl rfl ?_
          refine b_get hO flX12_54 kLY_0 (v := .ref (ad 2)) rfl dX12_odds_54 ?_
          refine b_aload_n hO dX12_odds_57 0 rfl rfl ?_
          refine b_get hO flX12_51 kLY_0 (v := .int (gI _ 13)) rfl dX12_odds_58 ?_
          refine b_iald hO kLY_2 (n := 2) rfl dX12_odds_61 ?_
          refine b_imul hO dX12_odds_62 ?_
          refine b_topI (fun x4_63 => ?_)
          refine b_istore hO dX12_odds_63 (by decide) (lv' := [(4, .int _), (0, .ref _), (1, .int _), (2, .int _), (3, .int _)]) rfl ?_
          refine b_iload_n hO dX12_odds_65 4 rfl rfl ?_
          refine b_iconst hO dX12_odds_66 ic_i_1 ?_
          refine b_icmp_ne hO dX12_odds_67 (tgt := 77) (by decide) ?_ ?_
          · refine b_iload hO dX12_odds_77 0 rfl ?_
            refine b_iconst hO dX12_odds_79 ic_i_1 ?_
            refine b_iadd hO dX12_odds_80 ?_
            refine b_iload hO dX12_odds_81 0 rfl ?_
            refine b_iconst hO dX12_odds_83 ic_i_1 ?_
            refine b_iadd hO dX12_odds_84 ?_
            refine b_imul hO dX12_odds_85 ?_
            refine b_sub [1, 2, 3, 4, 0] rfl ?_
            exact tfX12_odds_86 n0 hO _ _ _ _ _ _
          · refine b_iload hO dX12_odds_70 0 rfl ?_
            refine b_iconst hO dX12_odds_72 ic_i_1 ?_
            refine b_iadd hO dX12_odds_73 ?_
            refine b_goto hO dX12_odds_74 (tgt := 86) (by decide) ?_
            refine b_sub [1, 2, 3, 4, 0] rfl ?_
            exact tfX12_odds_86 n0 hO _ _ _ _ _ _
        · refine b_ldc2 hO w1793 dX12_odds_40 ?_
          exact b_lret hO dX12_odds_43
theorem ctX12_odds (n0 : Nat) (hI : Inj LY ad) (x1 : Int32) (x2 : Int32) (x3 : Int32) (M : Mem) : CT l LY D cy ad yX12_odds cX12_odds 14 (some .long) 6 (QL LY D cy ad) [.ref (ad 0), .int x1, .int x2, .int x3] M (fX12_odds n0 x1 x2 x3 M) :=
  CT.mk LYok hI (by decide) (Nat.le_of_ble_eq_true rfl) (fun hO => tfX12_odds n0 hO x1 x2 x3 M)
/-! X12_way -/
def fX12_way (n0 : Nat) (x1 : Int32) (x2 : Int32) (M : Mem) : Option (Int32 × Mem) :=
  (fX12_isCorner n0 x1 M).bind fun z2 =>
  if z2.1 = 0 then
    some ((-1 : Int32), z2.2)
  else
    (fX12_isCorner n0 x2 z2.2).bind fun z10 =>
    if z10.1 = 0 then
      some ((-1 : Int32), z10.2)
    else
      (fX12_at n0 (gI z10.2 13) x1 x2 z10.2).bind fun z27 =>
      if oob z27.1 50 then none else
      if (100000000 : Int32) ≤ (gA z27.2 9 (Int32.toNatClampNeg z27.1)) then
        some ((-1 : Int32), z27.2)
      else
        (fX12_at n0 (gI z27.2 13) x1 x2 z27.2).bind fun z48 =>
        if oob z48.1 50 then none else
        some ((gA z48.2 9 (Int32.toNatClampNeg z48.1)), z48.2)
theorem tfX12_way (n0 : Nat) (hO : OKc p (rmL 2) s m args meth c LY D cy ad cX12_way RX12 3 2 (some .int)) (x1 : Int32) (x2 : Int32) (M : Mem) : BL p l e (rmL 2) s m args below meth c LY D cy ad 3 (QI LY D cy ad) 0 [(0, .ref (ad 0)), (1, .int x1), (2, .int x2)] [] M (fX12_way n0 x1 x2 M) := by
  unfold fX12_way
  refine b_aload_n hO dX12_way_0 0 rfl rfl ?_
  refine b_iload_n hO dX12_way_1 1 rfl rfl ?_
  refine b_callVI hO mdX12_isCorner mvX12_isCorner w1733 (ci := 12) rfl rfl (by decide) kLY_0 (As := [.int _]) (st := []) (ctX12_isCorner n0 hO.2.2.2.2.2.2.1 _ _) (Nat.le_of_ble_eq_true rfl) rfl rfl (Nat.le_of_ble_eq_true rfl) dX12_way_2 (fun z2 => ?_)
  refine b_if_eq hO dX12_way_5 (tgt := 55) (by decide) ?_ ?_
  · refine b_iconst hO dX12_way_55 ic_i_m1 ?_
    exact b_iret hO dX12_way_56
  · refine b_aload_n hO dX12_way_8 0 rfl rfl ?_
    refine b_iload_n hO dX12_way_9 2 rfl rfl ?_
    refine b_callVI hO mdX12_isCorner mvX12_isCorner w1733 (ci := 12) rfl rfl (by decide) kLY_0 (As := [.int _]) (st := []) (ctX12_isCorner n0 hO.2.2.2.2.2.2.1 _ _) (Nat.le_of_ble_eq_true rfl) rfl rfl (Nat.le_of_ble_eq_true rfl) dX12_way_10 (fun z10 => ?_)
    refine b_if_eq hO dX12_way_13 (tgt := 55) (by decide) ?_ ?_
    · refine b_iconst hO dX12_way_55 ic_i_m1 ?_
      exact b_iret hO dX12_way_56
    · refine b_aload_n hO dX12_way_16 0 rfl rfl ?_
      refine b_get hO flX12_75 kLY_0 (v := .ref (ad 9)) rfl dX12_way_17 ?_
      refine b_aload_n hO dX12_way_20 0 rfl rfl ?_
      refine b_aload_n hO dX12_way_21 0 rfl rfl ?_
      refine b_get hO flX12_51 kLY_0 (v := .int (gI _ 13)) rfl dX12_way_22 ?_
      refine b_iload_n hO dX12_way_25 1 rfl rfl ?_
      refine b_iload_n hO dX12_way_26 2 rfl rfl ?_
      refine b_callVI hO mdX12_at mvX12_at w1469 (ci := 12) rfl rfl (by decide) kLY_0 (As := [.int _, .int _, .int _]) (st := [.ref _]) (ctX12_at n0 hO.2.2.2.2.2.2.1 _ _ _ _) (Nat.le_of_ble_eq_true rfl) rfl rfl (Nat.le_of_ble_eq_true rfl) dX12_way_27 (fun z27 => ?_)
      refine b_iald hO kLY_9 (n := 50) rfl dX12_way_30 ?_
      refine b_ldcw hO w1648 dX12_way_31 ?_
      refine b_icmp_ge hO dX12_way_34 (tgt := 55) (by decide) ?_ ?_
      · refine b_iconst hO dX12_way_55 ic_i_m1 ?_
        exact b_iret hO dX12_way_56
      · refine b_aload_n hO dX12_way_37 0 rfl rfl ?_
        refine b_get hO flX12_75 kLY_0 (v := .ref (ad 9)) rfl dX12_way_38 ?_
        refine b_aload_n hO dX12_way_41 0 rfl rfl ?_
        refine b_aload_n hO dX12_way_42 0 rfl rfl ?_
        refine b_get hO flX12_51 kLY_0 (v := .int (gI _ 13)) rfl dX12_way_43 ?_
        refine b_iload_n hO dX12_way_46 1 rfl rfl ?_
        refine b_iload_n hO dX12_way_47 2 rfl rfl ?_
        refine b_callVI hO mdX12_at mvX12_at w1469 (ci := 12) rfl rfl (by decide) kLY_0 (As := [.int _, .int _, .int _]) (st := [.ref _]) (ctX12_at n0 hO.2.2.2.2.2.2.1 _ _ _ _) (Nat.le_of_ble_eq_true rfl) rfl rfl (Nat.le_of_ble_eq_true rfl) dX12_way_48 (fun z48 => ?_)
        refine b_iald hO kLY_9 (n := 50) rfl dX12_way_51 ?_
        refine b_goto hO dX12_way_52 (tgt := 56) (by decide) ?_
        exact b_iret hO dX12_way_56
theorem ctX12_way (n0 : Nat) (hI : Inj LY ad) (x1 : Int32) (x2 : Int32) (M : Mem) : CT l LY D cy ad yX12_way cX12_way 3 (some .int) 2 (QI LY D cy ad) [.ref (ad 0), .int x1, .int x2] M (fX12_way n0 x1 x2 M) :=
  CT.mk LYok hI (by decide) (Nat.le_of_ble_eq_true rfl) (fun hO => tfX12_way n0 hO x1 x2 M)
/-! X12_arrive -/
def fX12_arrive (n0 : Nat) (x1 : Int32) (x2 : Int32) (M : Mem) : Option (Int32 × Mem) :=
  (fX12_way n0 x1 x2 M).bind fun z3 =>
  if z3.1 = (-1 : Int32) then
    some ((-1 : Int32), z3.2)
  else
    (fX12_later n0 x2 z3.1 z3.2).bind fun z19 =>
    some (z19.1, z19.2)
theorem tfX12_arrive (n0 : Nat) (hO : OKc p (rmL 8) s m args meth c LY D cy ad cX12_arrive RX12 4 8 (some .int)) (x1 : Int32) (x2 : Int32) (M : Mem) : BL p l e (rmL 8) s m args below meth c LY D cy ad 4 (QI LY D cy ad) 0 [(0, .ref (ad 0)), (1, .int x1), (2, .int x2)] [] M (fX12_arrive n0 x1 x2 M) := by
  unfold fX12_arrive
  refine b_aload_n hO dX12_arrive_0 0 rfl rfl ?_
  refine b_iload_n hO dX12_arrive_1 1 rfl rfl ?_
  refine b_iload_n hO dX12_arrive_2 2 rfl rfl ?_
  refine b_callVI hO mdX12_way mvX12_way w1802 (ci := 12) rfl rfl (by decide) kLY_0 (As := [.int _, .int _]) (st := []) (ctX12_way n0 hO.2.2.2.2.2.2.1 _ _ _) (Nat.le_of_ble_eq_true rfl) rfl rfl (Nat.le_of_ble_eq_true rfl) dX12_arrive_3 (fun z3 => ?_)
  refine b_istore_n hO dX12_arrive_6 rfl (by decide) (lv' := [(3, .int _), (0, .ref _), (1, .int _), (2, .int _)]) rfl ?_
  refine b_iload_n hO dX12_arrive_7 0 rfl rfl ?_
  refine b_iconst hO dX12_arrive_8 ic_i_m1 ?_
  refine b_icmp_ne hO dX12_arrive_9 (tgt := 16) (by decide) ?_ ?_
  · refine b_aload_n hO dX12_arrive_16 1 rfl rfl ?_
    refine b_iload_n hO dX12_arrive_17 3 rfl rfl ?_
    refine b_iload_n hO dX12_arrive_18 0 rfl rfl ?_
    refine b_callVI hO mdX12_later mvX12_later w1803 (ci := 12) rfl rfl (by decide) kLY_0 (As := [.int _, .int _]) (st := []) (ctX12_later n0 hO.2.2.2.2.2.2.1 _ _ _) (Nat.le_of_ble_eq_true rfl) rfl rfl (Nat.le_of_ble_eq_true rfl) dX12_arrive_19 (fun z19 => ?_)
    exact b_iret hO dX12_arrive_22
  · refine b_iconst hO dX12_arrive_12 ic_i_m1 ?_
    refine b_goto hO dX12_arrive_13 (tgt := 22) (by decide) ?_
    exact b_iret hO dX12_arrive_22
theorem ctX12_arrive (n0 : Nat) (hI : Inj LY ad) (x1 : Int32) (x2 : Int32) (M : Mem) : CT l LY D cy ad yX12_arrive cX12_arrive 4 (some .int) 8 (QI LY D cy ad) [.ref (ad 0), .int x1, .int x2] M (fX12_arrive n0 x1 x2 M) :=
  CT.mk LYok hI (by decide) (Nat.le_of_ble_eq_true rfl) (fun hO => tfX12_arrive n0 hO x1 x2 M)
/-! X12_early -/
def fX12_early_110 (n0 : Nat) (k21 : Int32 → Int32 → Mem → Option (Int32 × Mem)) (k36 : Int32 → Int32 → Int32 → Mem → Option (Int32 × Mem)) (k44 : Int32 → Int32 → Int32 → Int32 → Mem → Option (Int32 × Mem)) (x1 : Int32) (x2 : Int32) (x3 : Int32) (x4 : Int32) (u1 : Int32) (u2 : Int32) (u3 : Int32) (M : Mem) : Option (Int32 × Mem) :=
  if oob u1 61 then none else
  bnd (sA M 38 (Int32.toNatClampNeg u1) (u2 ||| u3)) fun M111 =>
  k44 x1 x2 x3 (x4 + (1 : Int32)) M111
def fX12_early_109 (n0 : Nat) (k21 : Int32 → Int32 → Mem → Option (Int32 × Mem)) (k36 : Int32 → Int32 → Int32 → Mem → Option (Int32 × Mem)) (k44 : Int32 → Int32 → Int32 → Int32 → Mem → Option (Int32 × Mem)) (x1 : Int32) (x2 : Int32) (x3 : Int32) (x4 : Int32) (u1 : Int32) (u2 : Int32) (M : Mem) : Option (Int32 × Mem) :=
  fX12_early_110 n0 k21 k36 k44 x1 x2 x3 x4 u1 u2 (0 : Int32) M
def bX12_early_44 (n0 : Nat) (k21 : Int32 → Int32 → Mem → Option (Int32 × Mem)) (k36 : Int32 → Int32 → Int32 → Mem → Option (Int32 × Mem)) (k44 : Int32 → Int32 → Int32 → Int32 → Mem → Option (Int32 × Mem)) (x1 : Int32) (x2 : Int32) (x3 : Int32) (x4 : Int32) (M : Mem) : Option (Int32 × Mem) :=
  if (5 : Int32) ≤ x4 then
    k36 x1 x2 (x3 + (1 : Int32)) M
  else
    (fX12_at n0 (gI M 13) x3 x4 M).bind fun z62 =>
    if oob z62.1 50 then none else
    bnd (gA z62.2 8 (Int32.toNatClampNeg z62.1)) fun x5_66 =>
    if oob x2 61 then none else
    if x5_66 ≤ 0 then
      fX12_early_109 n0 k21 k36 k44 x1 x2 x3 x4 x2 (gA z62.2 38 (Int32.toNatClampNeg x2)) z62.2
    else
      if x2 < x5_66 then
        fX12_early_109 n0 k21 k36 k44 x1 x2 x3 x4 x2 (gA z62.2 38 (Int32.toNatClampNeg x2)) z62.2
      else
        if oob (x2 - x5_66) 61 then none else
        (fX12_has2 n0 (gA z62.2 38 (Int32.toNatClampNeg (x2 - x5_66))) x3 z62.2).bind fun z96 =>
        if z96.1 = 0 then
          fX12_early_109 n0 k21 k36 k44 x1 x2 x3 x4 x2 (gA z62.2 38 (Int32.toNatClampNeg x2)) z96.2
        else
          fX12_early_110 n0 k21 k36 k44 x1 x2 x3 x4 x2 (gA z62.2 38 (Int32.toNatClampNeg x2)) ((1 : Int32) <<< (x4 &&& 31)) z96.2
def fX12_early_44 (n0 : Nat) (k21 : Int32 → Int32 → Mem → Option (Int32 × Mem)) (k36 : Int32 → Int32 → Int32 → Mem → Option (Int32 × Mem)) : Int32 → Int32 → Int32 → Int32 → Mem → Option (Int32 × Mem) := loopN (bX12_early_44 n0 k21 k36) (fun _ _ _ _ _ => none) n0
def bX12_early_36 (n0 : Nat) (k21 : Int32 → Int32 → Mem → Option (Int32 × Mem)) (k36 : Int32 → Int32 → Int32 → Mem → Option (Int32 × Mem)) (x1 : Int32) (x2 : Int32) (x3 : Int32) (M : Mem) : Option (Int32 × Mem) :=
  if (5 : Int32) ≤ x3 then
    k21 x1 (x2 + (1 : Int32)) M
  else
    fX12_early_44 n0 k21 k36 x1 x2 x3 (0 : Int32) M
def fX12_early_36 (n0 : Nat) (k21 : Int32 → Int32 → Mem → Option (Int32 × Mem)) : Int32 → Int32 → Int32 → Mem → Option (Int32 × Mem) := loopN (bX12_early_36 n0 k21) (fun _ _ _ _ => none) n0
def fX12_early_186 (n0 : Nat) (k145 : Int32 → Int32 → Int32 → Mem → Option (Int32 × Mem)) (x1 : Int32) (x2 : Int32) (x3 : Int32) (M : Mem) : Option (Int32 × Mem) :=
  k145 x1 x2 (x3 + (1 : Int32)) M
def bX12_early_145 (n0 : Nat) (k145 : Int32 → Int32 → Int32 → Mem → Option (Int32 × Mem)) (x1 : Int32) (x2 : Int32) (x3 : Int32) (M : Mem) : Option (Int32 × Mem) :=
  (fX12_isAhead n0 x3 (1 : Int32) (60 : Int32) M).bind fun z150 =>
  if z150.1 = 0 then
    some ((-1 : Int32), z150.2)
  else
    (fX12_ticks n0 (1 : Int32) z150.2).bind fun z158 =>
    if oob x3 61 then none else
    (fX12_has2 n0 (gA z158 38 (Int32.toNatClampNeg x3)) x1 z158).bind fun z168 =>
    if z168.1 = 0 then
      fX12_early_186 n0 k145 x1 x2 x3 z168.2
    else
      (fX12_hour n0 (1 : Int32) x1 z168.2).bind fun z177 =>
      if x2 ≤ z177.1 then
        fX12_early_186 n0 k145 x1 x2 x3 z177.2
      else
        some (x3, z177.2)
def fX12_early_145 (n0 : Nat) : Int32 → Int32 → Int32 → Mem → Option (Int32 × Mem) := loopN (bX12_early_145 n0) (fun _ _ _ _ => none) n0
def bX12_early_21 (n0 : Nat) (k21 : Int32 → Int32 → Mem → Option (Int32 × Mem)) (x1 : Int32) (x2 : Int32) (M : Mem) : Option (Int32 × Mem) :=
  if (60 : Int32) < x2 then
    (fX12_hour n0 (0 : Int32) x1 M).bind fun z133 =>
    (fX12_copies n0 (1 : Int32) (0 : Int32) z133.2).bind fun z140 =>
    fX12_early_145 n0 x1 z133.1 (1 : Int32) z140
  else
    if oob x2 61 then none else
    bnd (sA M 38 (Int32.toNatClampNeg x2) (0 : Int32)) fun M33 =>
    fX12_early_36 n0 k21 x1 x2 (0 : Int32) M33
def fX12_early_21 (n0 : Nat) : Int32 → Int32 → Mem → Option (Int32 × Mem) := loopN (bX12_early_21 n0) (fun _ _ _ => none) n0
def fX12_early (n0 : Nat) (x1 : Int32) (M : Mem) : Option (Int32 × Mem) :=
  (fX12_isCorner n0 x1 M).bind fun z2 =>
  if z2.1 = 0 then
    some ((-1 : Int32), z2.2)
  else
    if oob (0 : Int32) 61 then none else
    bnd (sA z2.2 38 (Int32.toNatClampNeg (0 : Int32)) ((1 : Int32) <<< (x1 &&& 31))) fun M18 =>
    fX12_early_21 n0 x1 (1 : Int32) M18
theorem tfX12_early_110 (n0 : Nat) (hO : OKc p (rmL 6) s m args meth c LY D cy ad cX12_early RX12 6 6 (some .int)) (k21 : Int32 → Int32 → Mem → Option (Int32 × Mem)) (k36 : Int32 → Int32 → Int32 → Mem → Option (Int32 × Mem)) (k44 : Int32 → Int32 → Int32 → Int32 → Mem → Option (Int32 × Mem)) (hk21 : ∀ (x1 : Int32) (x2 : Int32) (M : Mem), BL p l e (rmL 6) s m args below meth c LY D cy ad 6 (QI LY D cy ad) 21 [(0, .ref (ad 0)), (1, .int x1), (2, .int x2)] [] M (k21 x1 x2 M)) (hk36 : ∀ (x1 : Int32) (x2 : Int32) (x3 : Int32) (M : Mem), BL p l e (rmL 6) s m args below meth c LY D cy ad 6 (QI LY D cy ad) 36 [(0, .ref (ad 0)), (1, .int x1), (2, .int x2), (3, .int x3)] [] M (k36 x1 x2 x3 M)) (hk44 : ∀ (x1 : Int32) (x2 : Int32) (x3 : Int32) (x4 : Int32) (M : Mem), BL p l e (rmL 6) s m args below meth c LY D cy ad 6 (QI LY D cy ad) 44 [(0, .ref (ad 0)), (1, .int x1), (2, .int x2), (3, .int x3), (4, .int x4)] [] M (k44 x1 x2 x3 x4 M)) (x1 : Int32) (x2 : Int32) (x3 : Int32) (x4 : Int32) (u1 : Int32) (u2 : Int32) (u3 : Int32) (M : Mem) : BL p l e (rmL 6) s m args below meth c LY D cy ad 6 (QI LY D cy ad) 110 [(0, .ref (ad 0)), (1, .int x1), (2, .int x2), (3, .int x3), (4, .int x4)] [.int u3, .int u2, .int u1, .ref (ad 38)] M (fX12_early_110 n0 k21 k36 k44 x1 x2 x3 x4 u1 u2 u3 M) := by
  unfold fX12_early_110
  refine b_ior hO dX12_early_110 ?_
  refine b_iast hO kLY_38 (n := 61) rfl dX12_early_111 ?_
  refine b_bnd (fun M111 => ?_)
  refine b_iinc hO dX12_early_112 4 rfl ic_i_1 (by decide) (lv' := [(4, .int _), (0, .ref _), (1, .int _), (2, .int _), (3, .int _)]) rfl ?_
  refine b_goto hO dX12_early_115 (tgt := 44) (by decide) ?_
  refine b_sub [1, 2, 3, 4, 0] rfl ?_
  exact hk44 _ _ _ _ _
theorem tfX12_early_109 (n0 : Nat) (hO : OKc p (rmL 6) s m args meth c LY D cy ad cX12_early RX12 6 6 (some .int)) (k21 : Int32 → Int32 → Mem → Option (Int32 × Mem)) (k36 : Int32 → Int32 → Int32 → Mem → Option (Int32 × Mem)) (k44 : Int32 → Int32 → Int32 → Int32 → Mem → Option (Int32 × Mem)) (hk21 : ∀ (x1 : Int32) (x2 : Int32) (M : Mem), BL p l e (rmL 6) s m args below meth c LY D cy ad 6 (QI LY D cy ad) 21 [(0, .ref (ad 0)), (1, .int x1), (2, .int x2)] [] M (k21 x1 x2 M)) (hk36 : ∀ (x1 : Int32) (x2 : Int32) (x3 : Int32) (M : Mem), BL p l e (rmL 6) s m args below meth c LY D cy ad 6 (QI LY D cy ad) 36 [(0, .ref (ad 0)), (1, .int x1), (2, .int x2), (3, .int x3)] [] M (k36 x1 x2 x3 M)) (hk44 : ∀ (x1 : Int32) (x2 : Int32) (x3 : Int32) (x4 : Int32) (M : Mem), BL p l e (rmL 6) s m args below meth c LY D cy ad 6 (QI LY D cy ad) 44 [(0, .ref (ad 0)), (1, .int x1), (2, .int x2), (3, .int x3), (4, .int x4)] [] M (k44 x1 x2 x3 x4 M)) (x1 : Int32) (x2 : Int32) (x3 : Int32) (x4 : Int32) (u1 : Int32) (u2 : Int32) (M : Mem) : BL p l e (rmL 6) s m args below meth c LY D cy ad 6 (QI LY D cy ad) 109 [(0, .ref (ad 0)), (1, .int x1), (2, .int x2), (3, .int x3), (4, .int x4)] [.int u2, .int u1, .ref (ad 38)] M (fX12_early_109 n0 k21 k36 k44 x1 x2 x3 x4 u1 u2 M) := by
  unfold fX12_early_109
  refine b_iconst hO dX12_early_109 ic_i_0 ?_
  exact tfX12_early_110 n0 hO k21 k36 k44 hk21 hk36 hk44 _ _ _ _ _ _ _ _
theorem tbX12_early_44 (n0 : Nat) (hO : OKc p (rmL 6) s m args meth c LY D cy ad cX12_early RX12 6 6 (some .int)) (k21 : Int32 → Int32 → Mem → Option (Int32 × Mem)) (k36 : Int32 → Int32 → Int32 → Mem → Option (Int32 × Mem)) (k44 : Int32 → Int32 → Int32 → Int32 → Mem → Option (Int32 × Mem)) (hk21 : ∀ (x1 : Int32) (x2 : Int32) (M : Mem), BL p l e (rmL 6) s m args below meth c LY D cy ad 6 (QI LY D cy ad) 21 [(0, .ref (ad 0)), (1, .int x1), (2, .int x2)] [] M (k21 x1 x2 M)) (hk36 : ∀ (x1 : Int32) (x2 : Int32) (x3 : Int32) (M : Mem), BL p l e (rmL 6) s m args below meth c LY D cy ad 6 (QI LY D cy ad) 36 [(0, .ref (ad 0)), (1, .int x1), (2, .int x2), (3, .int x3)] [] M (k36 x1 x2 x3 M)) (hk44 : ∀ (x1 : Int32) (x2 : Int32) (x3 : Int32) (x4 : Int32) (M : Mem), BL p l e (rmL 6) s m args below meth c LY D cy ad 6 (QI LY D cy ad) 44 [(0, .ref (ad 0)), (1, .int x1), (2, .int x2), (3, .int x3), (4, .int x4)] [] M (k44 x1 x2 x3 x4 M)) (x1 : Int32) (x2 : Int32) (x3 : Int32) (x4 : Int32) (M : Mem) : BL p l e (rmL 6) s m args below meth c LY D cy ad 6 (QI LY D cy ad) 44 [(0, .ref (ad 0)), (1, .int x1), (2, .int x2), (3, .int x3), (4, .int x4)] [] M (bX12_early_44 n0 k21 k36 k44 x1 x2 x3 x4 M) := by
  unfold bX12_early_44
  refine b_iload hO dX12_early_44 4 rfl ?_
  refine b_iconst hO dX12_early_46 ic_i_5 ?_
  refine b_icmp_ge hO dX12_early_47 (tgt := 118) (by decide) ?_ ?_
  · refine b_iinc hO dX12_early_118 3 rfl ic_i_1 (by decide) (lv' := [(3, .int _), (0, .ref _), (1, .int _), (2, .int _), (4, .int _)]) rfl ?_
    refine b_goto hO dX12_early_121 (tgt := 36) (by decide) ?_
    refine b_sub [1, 2, 3, 0] rfl ?_
    exact hk36 _ _ _ _
  · refine b_aload_n hO dX12_early_50 0 rfl rfl ?_
    refine b_get hO flX12_72 kLY_0 (v := .ref (ad 8)) rfl dX12_early_51 ?_
    refine b_aload_n hO dX12_early_54 0 rfl rfl ?_
    refine b_aload_n hO dX12_early_55 0 rfl rfl ?_
    refine b_get hO flX12_51 kLY_0 (v := .int (gI _ 13)) rfl dX12_early_56 ?_
    refine b_iload_n hO dX12_early_59 3 rfl rfl ?_
    refine b_iload hO dX12_early_60 4 rfl ?_
    refine b_callVI hO mdX12_at mvX12_at w1469 (ci := 12) rfl rfl (by decide) kLY_0 (As := [.int _, .int _, .int _]) (st := [.ref _]) (ctX12_at n0 hO.2.2.2.2.2.2.1 _ _ _ _) (Nat.le_of_ble_eq_true rfl) rfl rfl (Nat.le_of_ble_eq_true rfl) dX12_early_62 (fun z62 => ?_)
    refine b_iald hO kLY_8 (n := 50) rfl dX12_early_65 ?_
    refine b_topI (fun x5_66 => ?_)
    refine b_istore hO dX12_early_66 (by decide) (lv' := [(5, .int _), (0, .ref _), (1, .int _), (2, .int _), (3, .int _), (4, .int _)]) rfl ?_
    refine b_aload_n hO dX12_early_68 1 rfl rfl ?_
    refine b_get hO flX12_195 kLY_0 (v := .ref (ad 38)) rfl dX12_early_69 ?_
    refine b_iload_n hO dX12_early_72 3 rfl rfl ?_
    refine b_dup2 hO dX12_early_73 rfl rfl ?_
    refine b_iald hO kLY_38 (n := 61) rfl dX12_early_74 ?_
    refine b_iload hO dX12_early_75 0 rfl ?_
    refine b_if_le hO dX12_early_77 (tgt := 109) (by decide) ?_ ?_
    · refine b_sub [1, 2, 3, 4, 5] rfl ?_
      exact tfX12_early_109 n0 hO k21 k36 k44 hk21 hk36 hk44 _ _ _ _ _ _ _
    · refine b_iload hO dX12_early_80 0 rfl ?_
      refine b_iload_n hO dX12_early_82 3 rfl rfl ?_
      refine b_icmp_gt hO dX12_early_83 (tgt := 109) (by decide) ?_ ?_
      · refine b_sub [1, 2, 3, 4, 5] rfl ?_
        exact tfX12_early_109 n0 hO k21 k36 k44 hk21 hk36 hk44 _ _ _ _ _ _ _
      · refine b_aload_n hO dX12_early_86 1 rfl rfl ?_
        refine b_get hO flX12_195 kLY_0 (v := .ref (ad 38)) rfl dX12_early_87 ?_
        refine b_iload_n hO dX12_early_90 3 rfl rfl ?_
        refine b_iload hO dX12_early_91 0 rfl ?_
        refine b_isub hO dX12_early_93 ?_
        refine b_iald hO kLY_38 (n := 61) rfl dX12_early_94 ?_
        refine b_iload_n hO dX12_early_95 4 rfl rfl ?_
        refine b_callSI hO mdX12_has2 w1576 w1575 (As := [.int _, .int _]) (st := [.int _, .int _, .ref _]) (ctX12_has2 n0 hO.2.2.2.2.2.2.1 _ _ _) (Nat.le_of_ble_eq_true rfl) rfl rfl (Nat.le_of_ble_eq_true rfl) dX12_early_96 (fun z96 => ?_)
        refine b_if_eq hO dX12_early_99 (tgt := 109) (by decide) ?_ ?_
        · refine b_sub [1, 2, 3, 4, 5] rfl ?_
          exact tfX12_early_109 n0 hO k21 k36 k44 hk21 hk36 hk44 _ _ _ _ _ _ _
        · refine b_iconst hO dX12_early_102 ic_i_1 ?_
          refine b_iload hO dX12_early_103 5 rfl ?_
          refine b_ishl hO dX12_early_105 ?_
          refine b_goto hO dX12_early_106 (tgt := 110) (by decide) ?_
          refine b_sub [1, 2, 3, 4, 5] rfl ?_
          exact tfX12_early_110 n0 hO k21 k36 k44 hk21 hk36 hk44 _ _ _ _ _ _ _ _
theorem lX12_early_44 (n0 : Nat) (hO : OKc p (rmL 6) s m args meth c LY D cy ad cX12_early RX12 6 6 (some .int)) (k21 : Int32 → Int32 → Mem → Option (Int32 × Mem)) (k36 : Int32 → Int32 → Int32 → Mem → Option (Int32 × Mem)) (hk21 : ∀ (x1 : Int32) (x2 : Int32) (M : Mem), BL p l e (rmL 6) s m args below meth c LY D cy ad 6 (QI LY D cy ad) 21 [(0, .ref (ad 0)), (1, .int x1), (2, .int x2)] [] M (k21 x1 x2 M)) (hk36 : ∀ (x1 : Int32) (x2 : Int32) (x3 : Int32) (M : Mem), BL p l e (rmL 6) s m args below meth c LY D cy ad 6 (QI LY D cy ad) 36 [(0, .ref (ad 0)), (1, .int x1), (2, .int x2), (3, .int x3)] [] M (k36 x1 x2 x3 M)) : ∀ (w : Nat) (x1 : Int32) (x2 : Int32) (x3 : Int32) (x4 : Int32) (M : Mem), BL p l e (rmL 6) s m args below meth c LY D cy ad 6 (QI LY D cy ad) 44 [(0, .ref (ad 0)), (1, .int x1), (2, .int x2), (3, .int x3), (4, .int x4)] [] M (loopN (bX12_early_44 n0 k21 k36) (fun _ _ _ _ _ => none) w x1 x2 x3 x4 M) := by
  intro w
  induction w with
  | zero =>
    intros
    exact b_none
  | succ w ih =>
    intro x1 x2 x3 x4 M
    exact tbX12_early_44 n0 hO k21 k36 _ hk21 hk36 ih x1 x2 x3 x4 M
theorem tfX12_early_44 (n0 : Nat) (hO : OKc p (rmL 6) s m args meth c LY D cy ad cX12_early RX12 6 6 (some .int)) (k21 : Int32 → Int32 → Mem → Option (Int32 × Mem)) (k36 : Int32 → Int32 → Int32 → Mem → Option (Int32 × Mem)) (hk21 : ∀ (x1 : Int32) (x2 : Int32) (M : Mem), BL p l e (rmL 6) s m args below meth c LY D cy ad 6 (QI LY D cy ad) 21 [(0, .ref (ad 0)), (1, .int x1), (2, .int x2)] [] M (k21 x1 x2 M)) (hk36 : ∀ (x1 : Int32) (x2 : Int32) (x3 : Int32) (M : Mem), BL p l e (rmL 6) s m args below meth c LY D cy ad 6 (QI LY D cy ad) 36 [(0, .ref (ad 0)), (1, .int x1), (2, .int x2), (3, .int x3)] [] M (k36 x1 x2 x3 M)) (x1 : Int32) (x2 : Int32) (x3 : Int32) (x4 : Int32) (M : Mem) : BL p l e (rmL 6) s m args below meth c LY D cy ad 6 (QI LY D cy ad) 44 [(0, .ref (ad 0)), (1, .int x1), (2, .int x2), (3, .int x3), (4, .int x4)] [] M (fX12_early_44 n0 k21 k36 x1 x2 x3 x4 M) := lX12_early_44 n0 hO k21 k36 hk21 hk36 n0 x1 x2 x3 x4 M
theorem tbX12_early_36 (n0 : Nat) (hO : OKc p (rmL 6) s m args meth c LY D cy ad cX12_early RX12 6 6 (some .int)) (k21 : Int32 → Int32 → Mem → Option (Int32 × Mem)) (k36 : Int32 → Int32 → Int32 → Mem → Option (Int32 × Mem)) (hk21 : ∀ (x1 : Int32) (x2 : Int32) (M : Mem), BL p l e (rmL 6) s m args below meth c LY D cy ad 6 (QI LY D cy ad) 21 [(0, .ref (ad 0)), (1, .int x1), (2, .int x2)] [] M (k21 x1 x2 M)) (hk36 : ∀ (x1 : Int32) (x2 : Int32) (x3 : Int32) (M : Mem), BL p l e (rmL 6) s m args below meth c LY D cy ad 6 (QI LY D cy ad) 36 [(0, .ref (ad 0)), (1, .int x1), (2, .int x2), (3, .int x3)] [] M (k36 x1 x2 x3 M)) (x1 : Int32) (x2 : Int32) (x3 : Int32) (M : Mem) : BL p l e (rmL 6) s m args below meth c LY D cy ad 6 (QI LY D cy ad) 36 [(0, .ref (ad 0)), (1, .int x1), (2, .int x2), (3, .int x3)] [] M (bX12_early_36 n0 k21 k36 x1 x2 x3 M) := by
  unfold bX12_early_36
  refine b_iload_n hO dX12_early_36 3 rfl rfl ?_
  refine b_iconst hO dX12_early_37 ic_i_5 ?_
  refine b_icmp_ge hO dX12_early_38 (tgt := 124) (by decide) ?_ ?_
  · refine b_iinc hO dX12_early_124 2 rfl ic_i_1 (by decide) (lv' := [(2, .int _), (0, .ref _), (1, .int _), (3, .int _)]) rfl ?_
    refine b_goto hO dX12_early_127 (tgt := 21) (by decide) ?_
    refine b_sub [1, 2, 0] rfl ?_
    exact hk21 _ _ _
  · refine b_iconst hO dX12_early_41 ic_i_0 ?_
    refine b_istore hO dX12_early_42 (by decide) (lv' := [(4, .int _), (0, .ref _), (1, .int _), (2, .int _), (3, .int _)]) rfl ?_
    refine b_sub [1, 2, 3, 4, 0] rfl ?_
    exact tfX12_early_44 n0 hO k21 k36 hk21 hk36 _ _ _ _ _
theorem lX12_early_36 (n0 : Nat) (hO : OKc p (rmL 6) s m args meth c LY D cy ad cX12_early RX12 6 6 (some .int)) (k21 : Int32 → Int32 → Mem → Option (Int32 × Mem)) (hk21 : ∀ (x1 : Int32) (x2 : Int32) (M : Mem), BL p l e (rmL 6) s m args below meth c LY D cy ad 6 (QI LY D cy ad) 21 [(0, .ref (ad 0)), (1, .int x1), (2, .int x2)] [] M (k21 x1 x2 M)) : ∀ (w : Nat) (x1 : Int32) (x2 : Int32) (x3 : Int32) (M : Mem), BL p l e (rmL 6) s m args below meth c LY D cy ad 6 (QI LY D cy ad) 36 [(0, .ref (ad 0)), (1, .int x1), (2, .int x2), (3, .int x3)] [] M (loopN (bX12_early_36 n0 k21) (fun _ _ _ _ => none) w x1 x2 x3 M) := by
  intro w
  induction w with
  | zero =>
    intros
    exact b_none
  | succ w ih =>
    intro x1 x2 x3 M
    exact tbX12_early_36 n0 hO k21 _ hk21 ih x1 x2 x3 M
theorem tfX12_early_36 (n0 : Nat) (hO : OKc p (rmL 6) s m args meth c LY D cy ad cX12_early RX12 6 6 (some .int)) (k21 : Int32 → Int32 → Mem → Option (Int32 × Mem)) (hk21 : ∀ (x1 : Int32) (x2 : Int32) (M : Mem), BL p l e (rmL 6) s m args below meth c LY D cy ad 6 (QI LY D cy ad) 21 [(0, .ref (ad 0)), (1, .int x1), (2, .int x2)] [] M (k21 x1 x2 M)) (x1 : Int32) (x2 : Int32) (x3 : Int32) (M : Mem) : BL p l e (rmL 6) s m args below meth c LY D cy ad 6 (QI LY D cy ad) 36 [(0, .ref (ad 0)), (1, .int x1), (2, .int x2), (3, .int x3)] [] M (fX12_early_36 n0 k21 x1 x2 x3 M) := lX12_early_36 n0 hO k21 hk21 n0 x1 x2 x3 M
theorem tfX12_early_186 (n0 : Nat) (hO : OKc p (rmL 6) s m args meth c LY D cy ad cX12_early RX12 6 6 (some .int)) (k145 : Int32 → Int32 → Int32 → Mem → Option (Int32 × Mem)) (hk145 : ∀ (x1 : Int32) (x2 : Int32) (x3 : Int32) (M : Mem), BL p l e (rmL 6) s m args below meth c LY D cy ad 6 (QI LY D cy ad) 145 [(0, .ref (ad 0)), (1, .int x1), (2, .int x2), (3, .int x3)] [] M (k145 x1 x2 x3 M)) (x1 : Int32) (x2 : Int32) (x3 : Int32) (M : Mem) : BL p l e (rmL 6) s m args below meth c LY D cy ad 6 (QI LY D cy ad) 186 [(0, .ref (ad 0)), (1, .int x1), (2, .int x2), (3, .int x3)] [] M (fX12_early_186 n0 k145 x1 x2 x3 M) := by
  unfold fX12_early_186
  refine b_iinc hO dX12_early_186 3 rfl ic_i_1 (by decide) (lv' := [(3, .int _), (0, .ref _), (1, .int _), (2, .int _)]) rfl ?_
  refine b_goto hO dX12_early_189 (tgt := 145) (by decide) ?_
  refine b_sub [1, 2, 3, 0] rfl ?_
  exact hk145 _ _ _ _
theorem tbX12_early_145 (n0 : Nat) (hO : OKc p (rmL 6) s m args meth c LY D cy ad cX12_early RX12 6 6 (some .int)) (k145 : Int32 → Int32 → Int32 → Mem → Option (Int32 × Mem)) (hk145 : ∀ (x1 : Int32) (x2 : Int32) (x3 : Int32) (M : Mem), BL p l e (rmL 6) s m args below meth c LY D cy ad 6 (QI LY D cy ad) 145 [(0, .ref (ad 0)), (1, .int x1), (2, .int x2), (3, .int x3)] [] M (k145 x1 x2 x3 M)) (x1 : Int32) (x2 : Int32) (x3 : Int32) (M : Mem) : BL p l e (rmL 6) s m args below meth c LY D cy ad 6 (QI LY D cy ad) 145 [(0, .ref (ad 0)), (1, .int x1), (2, .int x2), (3, .int x3)] [] M (bX12_early_145 n0 k145 x1 x2 x3 M) := by
  unfold bX12_early_145
  refine b_aload_n hO dX12_early_145 0 rfl rfl ?_
  refine b_iload_n hO dX12_early_146 3 rfl rfl ?_
  refine b_iconst hO dX12_early_147 ic_i_1 ?_
  refine b_bipush hO dX12_early_148 ic_b_60 ?_
  refine b_callVI hO mdX12_isAhead mvX12_isAhead w1749 (ci := 12) rfl rfl (by decide) kLY_0 (As := [.int _, .int _, .int _]) (st := []) (ctX12_isAhead n0 hO.2.2.2.2.2.2.1 _ _ _ _) (Nat.le_of_ble_eq_true rfl) rfl rfl (Nat.le_of_ble_eq_true rfl) dX12_early_150 (fun z150 => ?_)
  refine b_if_eq hO dX12_early_153 (tgt := 192) (by decide) ?_ ?_
  · refine b_iconst hO dX12_early_192 ic_i_m1 ?_
    exact b_iret hO dX12_early_193
  · refine b_aload_n hO dX12_early_156 0 rfl rfl ?_
    refine b_iconst hO dX12_early_157 ic_i_1 ?_
    refine b_callVV hO mdX12_ticks mvX12_ticks w1757 (ci := 12) rfl rfl (by decide) kLY_0 (As := [.int _]) (st := []) (ctX12_ticks n0 hO.2.2.2.2.2.2.1 _ _) (Nat.le_of_ble_eq_true rfl) rfl rfl (Nat.le_of_ble_eq_true rfl) dX12_early_158 (fun z158 => ?_)
    refine b_aload_n hO dX12_early_161 0 rfl rfl ?_
    refine b_get hO flX12_195 kLY_0 (v := .ref (ad 38)) rfl dX12_early_162 ?_
    refine b_iload_n hO dX12_early_165 3 rfl rfl ?_
    refine b_iald hO kLY_38 (n := 61) rfl dX12_early_166 ?_
    refine b_iload_n hO dX12_early_167 1 rfl rfl ?_
    refine b_callSI hO mdX12_has2 w1576 w1575 (As := [.int _, .int _]) (st := []) (ctX12_has2 n0 hO.2.2.2.2.2.2.1 _ _ _) (Nat.le_of_ble_eq_true rfl) rfl rfl (Nat.le_of_ble_eq_true rfl) dX12_early_168 (fun z168 => ?_)
    refine b_if_eq hO dX12_early_171 (tgt := 186) (by decide) ?_ ?_
    · exact tfX12_early_186 n0 hO k145 hk145 _ _ _ _
    · refine b_aload_n hO dX12_early_174 0 rfl rfl ?_
      refine b_iconst hO dX12_early_175 ic_i_1 ?_
      refine b_iload_n hO dX12_early_176 1 rfl rfl ?_
      refine b_callVI hO mdX12_hour mvX12_hour w1657 (ci := 12) rfl rfl (by decide) kLY_0 (As := [.int _, .int _]) (st := []) (ctX12_hour n0 hO.2.2.2.2.2.2.1 _ _ _) (Nat.le_of_ble_eq_true rfl) rfl rfl (Nat.le_of_ble_eq_true rfl) dX12_early_177 (fun z177 => ?_)
      refine b_iload_n hO dX12_early_180 2 rfl rfl ?_
      refine b_icmp_ge hO dX12_early_181 (tgt := 186) (by decide) ?_ ?_
      · exact tfX12_early_186 n0 hO k145 hk145 _ _ _ _
      · refine b_iload_n hO dX12_early_184 3 rfl rfl ?_
        exact b_iret hO dX12_early_185
theorem lX12_early_145 (n0 : Nat) (hO : OKc p (rmL 6) s m args meth c LY D cy ad cX12_early RX12 6 6 (some .int)) : ∀ (w : Nat) (x1 : Int32) (x2 : Int32) (x3 : Int32) (M : Mem), BL p l e (rmL 6) s m args below meth c LY D cy ad 6 (QI LY D cy ad) 145 [(0, .ref (ad 0)), (1, .int x1), (2, .int x2), (3, .int x3)] [] M (loopN (bX12_early_145 n0) (fun _ _ _ _ => none) w x1 x2 x3 M) := by
  intro w
  induction w with
  | zero =>
    intros
    exact b_none
  | succ w ih =>
    intro x1 x2 x3 M
    exact tbX12_early_145 n0 hO _ ih x1 x2 x3 M
theorem tfX12_early_145 (n0 : Nat) (hO : OKc p (rmL 6) s m args meth c LY D cy ad cX12_early RX12 6 6 (some .int)) (x1 : Int32) (x2 : Int32) (x3 : Int32) (M : Mem) : BL p l e (rmL 6) s m args below meth c LY D cy ad 6 (QI LY D cy ad) 145 [(0, .ref (ad 0)), (1, .int x1), (2, .int x2), (3, .int x3)] [] M (fX12_early_145 n0 x1 x2 x3 M) := lX12_early_145 n0 hO n0 x1 x2 x3 M
theorem tbX12_early_21 (n0 : Nat) (hO : OKc p (rmL 6) s m args meth c LY D cy ad cX12_early RX12 6 6 (some .int)) (k21 : Int32 → Int32 → Mem → Option (Int32 × Mem)) (hk21 : ∀ (x1 : Int32) (x2 : Int32) (M : Mem), BL p l e (rmL 6) s m args below meth c LY D cy ad 6 (QI LY D cy ad) 21 [(0, .ref (ad 0)), (1, .int x1), (2, .int x2)] [] M (k21 x1 x2 M)) (x1 : Int32) (x2 : Int32) (M : Mem) : BL p l e (rmL 6) s m args below meth c LY D cy ad 6 (QI LY D cy ad) 21 [(0, .ref (ad 0)), (1, .int x1), (2, .int x2)] [] M (bX12_early_21 n0 k21 x1 x2 M) := by
  unfold bX12_early_21
  refine b_iload_n hO dX12_early_21 2 rfl rfl ?_
  refine b_bipush hO dX12_early_22 ic_b_60 ?_
  refine b_icmp_gt hO dX12_early_24 (tgt := 130) (by decide) ?_ ?_
  · refine b_aload_n hO dX12_early_130 0 rfl rfl ?_
    refine b_iconst hO dX12_early_131 ic_i_0 ?_
    refine b_iload_n hO dX12_early_132 1 rfl rfl ?_
    refine b_callVI hO mdX12_hour mvX12_hour w1657 (ci := 12) rfl rfl (by decide) kLY_0 (As := [.int _, .int _]) (st := []) (ctX12_hour n0 hO.2.2.2.2.2.2.1 _ _ _) (Nat.le_of_ble_eq_true rfl) rfl rfl (Nat.le_of_ble_eq_true rfl) dX12_early_133 (fun z133 => ?_)
    refine b_istore_n hO dX12_early_136 rfl (by decide) (lv' := [(2, .int _), (0, .ref _), (1, .int _)]) rfl ?_
    refine b_aload_n hO dX12_early_137 1 rfl rfl ?_
    refine b_iconst hO dX12_early_138 ic_i_1 ?_
    refine b_iconst hO dX12_early_139 ic_i_0 ?_
    refine b_callVV hO mdX12_copies mvX12_copies w1705 (ci := 12) rfl rfl (by decide) kLY_0 (As := [.int _, .int _]) (st := []) (ctX12_copies n0 hO.2.2.2.2.2.2.1 _ _ _) (Nat.le_of_ble_eq_true rfl) rfl rfl (Nat.le_of_ble_eq_true rfl) dX12_early_140 (fun z140 => ?_)
    refine b_iconst hO dX12_early_143 ic_i_1 ?_
    refine b_istore_n hO dX12_early_144 rfl (by decide) (lv' := [(3, .int _), (2, .int _), (0, .ref _), (1, .int _)]) rfl ?_
    refine b_sub [2, 3, 1, 0] rfl ?_
    exact tfX12_early_145 n0 hO _ _ _ _
  · refine b_aload_n hO dX12_early_27 0 rfl rfl ?_
    refine b_get hO flX12_195 kLY_0 (v := .ref (ad 38)) rfl dX12_early_28 ?_
    refine b_iload_n hO dX12_early_31 2 rfl rfl ?_
    refine b_iconst hO dX12_early_32 ic_i_0 ?_
    refine b_iast hO kLY_38 (n := 61) rfl dX12_early_33 ?_
    refine b_bnd (fun M33 => ?_)
    refine b_iconst hO dX12_early_34 ic_i_0 ?_
    refine b_istore_n hO dX12_early_35 rfl (by decide) (lv' := [(3, .int _), (0, .ref _), (1, .int _), (2, .int _)]) rfl ?_
    refine b_sub [1, 2, 3, 0] rfl ?_
    exact tfX12_early_36 n0 hO k21 hk21 _ _ _ _
theorem lX12_early_21 (n0 : Nat) (hO : OKc p (rmL 6) s m args meth c LY D cy ad cX12_early RX12 6 6 (some .int)) : ∀ (w : Nat) (x1 : Int32) (x2 : Int32) (M : Mem), BL p l e (rmL 6) s m args below meth c LY D cy ad 6 (QI LY D cy ad) 21 [(0, .ref (ad 0)), (1, .int x1), (2, .int x2)] [] M (loopN (bX12_early_21 n0) (fun _ _ _ => none) w x1 x2 M) := by
  intro w
  induction w with
  | zero =>
    intros
    exact b_none
  | succ w ih =>
    intro x1 x2 M
    exact tbX12_early_21 n0 hO _ ih x1 x2 M
theorem tfX12_early_21 (n0 : Nat) (hO : OKc p (rmL 6) s m args meth c LY D cy ad cX12_early RX12 6 6 (some .int)) (x1 : Int32) (x2 : Int32) (M : Mem) : BL p l e (rmL 6) s m args below meth c LY D cy ad 6 (QI LY D cy ad) 21 [(0, .ref (ad 0)), (1, .int x1), (2, .int x2)] [] M (fX12_early_21 n0 x1 x2 M) := lX12_early_21 n0 hO n0 x1 x2 M
theorem tfX12_early (n0 : Nat) (hO : OKc p (rmL 6) s m args meth c LY D cy ad cX12_early RX12 6 6 (some .int)) (x1 : Int32) (M : Mem) : BL p l e (rmL 6) s m args below meth c LY D cy ad 6 (QI LY D cy ad) 0 [(0, .ref (ad 0)), (1, .int x1)] [] M (fX12_early n0 x1 M) := by
  unfold fX12_early
  refine b_aload_n hO dX12_early_0 0 rfl rfl ?_
  refine b_iload_n hO dX12_early_1 1 rfl rfl ?_
  refine b_callVI hO mdX12_isCorner mvX12_isCorner w1733 (ci := 12) rfl rfl (by decide) kLY_0 (As := [.int _]) (st := []) (ctX12_isCorner n0 hO.2.2.2.2.2.2.1 _ _) (Nat.le_of_ble_eq_true rfl) rfl rfl (Nat.le_of_ble_eq_true rfl) dX12_early_2 (fun z2 => ?_)
  refine b_if_ne hO dX12_early_5 (tgt := 10) (by decide) ?_ ?_
  · refine b_aload_n hO dX12_early_10 0 rfl rfl ?_
    refine b_get hO flX12_195 kLY_0 (v := .ref (ad 38)) rfl dX12_early_11 ?_
    refine b_iconst hO dX12_early_14 ic_i_0 ?_
    refine b_iconst hO dX12_early_15 ic_i_1 ?_
    refine b_iload_n hO dX12_early_16 1 rfl rfl ?_
    refine b_ishl hO dX12_early_17 ?_
    refine b_iast hO kLY_38 (n := 61) rfl dX12_early_18 ?_
    refine b_bnd (fun M18 => ?_)
    refine b_iconst hO dX12_early_19 ic_i_1 ?_
    refine b_istore_n hO dX12_early_20 rfl (by decide) (lv' := [(2, .int _), (0, .ref _), (1, .int _)]) rfl ?_
    refine b_sub [1, 2, 0] rfl ?_
    exact tfX12_early_21 n0 hO _ _ _
  · refine b_iconst hO dX12_early_8 ic_i_m1 ?_
    exact b_iret hO dX12_early_9
theorem ctX12_early (n0 : Nat) (hI : Inj LY ad) (x1 : Int32) (M : Mem) : CT l LY D cy ad yX12_early cX12_early 6 (some .int) 6 (QI LY D cy ad) [.ref (ad 0), .int x1] M (fX12_early n0 x1 M) :=
  CT.mk LYok hI (by decide) (Nat.le_of_ble_eq_true rfl) (fun hO => tfX12_early n0 hO x1 M)
end
