section
section
variable {p : Program} {l : Launch} {e : Env} {s : State} {m : MethodId} {args : Array Value} {below : List Frame} {meth : Method} {c : Code} {D : va_G} {cy : Nat → ClassId} {ad : Nat → Nat} {dd : Nat}

/-! X6_put -/
def fX6_put (n0 : Nat) (x1 : Int32) (x2 : Int32) (M : Mem) : Option (Mem) :=
  if x1 < 0 then
    some M
  else
    if (5 : Int32) ≤ x1 then
      some M
    else
      if oob x1 5 then none else
      bnd (sA M 11 (Int32.toNatClampNeg x1) x2) fun M15 =>
      if oob x1 5 then none else
      some (sA M15 12 (Int32.toNatClampNeg x1) (0 : Int32))
theorem tfX6_put (n0 : Nat) (hO : OKc p (rmL 1) s m args meth c LX D cy ad cX6_put RX6 3 1 none) (x1 : Int32) (x2 : Int32) (M : Mem) : BL p l e (rmL 1) s m args below meth c LX D cy ad 3 (QV LX D cy ad) 0 [(0, .ref (ad 10)), (1, .int x1), (2, .int x2)] [] M (fX6_put n0 x1 x2 M) := by
  unfold fX6_put
  refine b_iload_n hO dX6_put_0 1 rfl rfl ?_
  refine b_if_lt hO dX6_put_1 (tgt := 23) (by decide) ?_ ?_
  · exact b_vret hO dX6_put_23
  · refine b_iload_n hO dX6_put_4 1 rfl rfl ?_
    refine b_iconst hO dX6_put_5 ic_i_5 ?_
    refine b_icmp_ge hO dX6_put_6 (tgt := 23) (by decide) ?_ ?_
    · exact b_vret hO dX6_put_23
    · refine b_aload_n hO dX6_put_9 0 rfl rfl ?_
      refine b_get hO flX6_15 kLX_10 (v := .ref (ad 11)) rfl dX6_put_10 ?_
      refine b_iload_n hO dX6_put_13 1 rfl rfl ?_
      refine b_iload_n hO dX6_put_14 2 rfl rfl ?_
      refine b_iast hO kLX_11 (n := 5) rfl dX6_put_15 ?_
      refine b_bnd (fun M15 => ?_)
      refine b_aload_n hO dX6_put_16 0 rfl rfl ?_
      refine b_get hO flX6_19 kLX_10 (v := .ref (ad 12)) rfl dX6_put_17 ?_
      refine b_iload_n hO dX6_put_20 1 rfl rfl ?_
      refine b_iconst hO dX6_put_21 ic_i_0 ?_
      refine b_iast hO kLX_12 (n := 5) rfl dX6_put_22 ?_
      exact b_vret hO dX6_put_23
theorem ctX6_put (n0 : Nat) (hI : Inj LX ad) (x1 : Int32) (x2 : Int32) (M : Mem) : CT l LX D cy ad yX6_put cX6_put 3 none 1 (QV LX D cy ad) [.ref (ad 10), .int x1, .int x2] M (fX6_put n0 x1 x2 M) :=
  CT.mk LXok hI (by decide) (Nat.le_of_ble_eq_true rfl) (fun hO => tfX6_put n0 hO x1 x2 M)
/-! X6_begin -/
def bX6_begin_50 (n0 : Nat) (q1 : Nat) (k50 : Int32 → Mem → Option (Mem)) (x2 : Int32) (M : Mem) : Option (Mem) :=
  if (gI M (128 * (gR M 1280) + 12)) ≤ x2 then
    some M
  else
    if oob x2 6 then none else
    bnd (sA M 13 (Int32.toNatClampNeg x2) (0 : Int32)) fun M67 =>
    k50 (x2 + (1 : Int32)) M67
def fX6_begin_50 (n0 : Nat) (q1 : Nat) : Int32 → Mem → Option (Mem) := loopN (bX6_begin_50 n0 q1) (fun _ _ => none) n0
def bX6_begin_17 (n0 : Nat) (q1 : Nat) (k17 : Int32 → Mem → Option (Mem)) (x2 : Int32) (M : Mem) : Option (Mem) :=
  if (gI M (128 * (gR M 1280) + 5)) ≤ x2 then
    fX6_begin_50 n0 q1 (0 : Int32) M
  else
    if oob x2 5 then none else
    (fX6_put n0 x2 (gA M ((gR M 1280) + 5) (Int32.toNatClampNeg x2)) M).bind fun z39 =>
    k17 (x2 + (1 : Int32)) z39
def fX6_begin_17 (n0 : Nat) (q1 : Nat) : Int32 → Mem → Option (Mem) := loopN (bX6_begin_17 n0 q1) (fun _ _ => none) n0
def fX6_begin (n0 : Nat) (q1 : Nat) (M : Mem) : Option (Mem) :=
  bnd (sR M 1280 q1) fun M2 =>
  bnd (sI M2 1281 (0 : Int32)) fun M7 =>
  bnd (sI M7 1285 (0 : Int32)) fun M12 =>
  fX6_begin_17 n0 q1 (0 : Int32) M12
theorem tbX6_begin_50 (n0 : Nat) (q1 : Nat) (hq1 : isK LX q1 9) (hO : OKc p (rmL 2) s m args meth c LX D cy ad cX6_begin RX6 3 2 none) (k50 : Int32 → Mem → Option (Mem)) (hk50 : ∀ (x2 : Int32) (M : Mem), BL p l e (rmL 2) s m args below meth c LX D cy ad 3 (QV LX D cy ad) 50 [(0, .ref (ad 10)), (2, .int x2)] [] M (k50 x2 M)) (x2 : Int32) (M : Mem) : BL p l e (rmL 2) s m args below meth c LX D cy ad 3 (QV LX D cy ad) 50 [(0, .ref (ad 10)), (2, .int x2)] [] M (bX6_begin_50 n0 q1 k50 x2 M) := by
  unfold bX6_begin_50
  refine b_iload_n hO dX6_begin_50 1 rfl rfl ?_
  refine b_aload_n hO dX6_begin_51 0 rfl rfl ?_
  refine b_getR hO flX6_34 kLX_10 (id := 1280) rfl rfl (rk := 9) rfl (by decide) dX6_begin_52 (fun hg1 => ?_)
  refine b_get hO flX6_50 hg1 (v := .int (gI _ (128 * (gR M 1280) + 12))) rfl dX6_begin_55 ?_
  refine b_icmp_ge hO dX6_begin_58 (tgt := 74) (by decide) ?_ ?_
  · exact b_vret hO dX6_begin_74
  · refine b_aload_n hO dX6_begin_61 0 rfl rfl ?_
    refine b_get hO flX6_22 kLX_10 (v := .ref (ad 13)) rfl dX6_begin_62 ?_
    refine b_iload_n hO dX6_begin_65 1 rfl rfl ?_
    refine b_iconst hO dX6_begin_66 ic_i_0 ?_
    refine b_iast hO kLX_13 (n := 6) rfl dX6_begin_67 ?_
    refine b_bnd (fun M67 => ?_)
    refine b_iinc hO dX6_begin_68 1 rfl ic_i_1 (by decide) (lv' := [(2, .int _), (0, .ref _)]) rfl ?_
    refine b_goto hO dX6_begin_71 (tgt := 50) (by decide) ?_
    refine b_sub [1, 0] rfl ?_
    exact hk50 _ _
theorem lX6_begin_50 (n0 : Nat) (q1 : Nat) (hq1 : isK LX q1 9) (hO : OKc p (rmL 2) s m args meth c LX D cy ad cX6_begin RX6 3 2 none) : ∀ (w : Nat) (x2 : Int32) (M : Mem), BL p l e (rmL 2) s m args below meth c LX D cy ad 3 (QV LX D cy ad) 50 [(0, .ref (ad 10)), (2, .int x2)] [] M (loopN (bX6_begin_50 n0 q1) (fun _ _ => none) w x2 M) := by
  intro w
  induction w with
  | zero =>
    intros
    exact b_none
  | succ w ih =>
    intro x2 M
    exact tbX6_begin_50 n0 q1 hq1 hO _ ih x2 M
theorem tfX6_begin_50 (n0 : Nat) (q1 : Nat) (hq1 : isK LX q1 9) (hO : OKc p (rmL 2) s m args meth c LX D cy ad cX6_begin RX6 3 2 none) (x2 : Int32) (M : Mem) : BL p l e (rmL 2) s m args below meth c LX D cy ad 3 (QV LX D cy ad) 50 [(0, .ref (ad 10)), (2, .int x2)] [] M (fX6_begin_50 n0 q1 x2 M) := lX6_begin_50 n0 q1 hq1 hO n0 x2 M
theorem tbX6_begin_17 (n0 : Nat) (q1 : Nat) (hq1 : isK LX q1 9) (hO : OKc p (rmL 2) s m args meth c LX D cy ad cX6_begin RX6 3 2 none) (k17 : Int32 → Mem → Option (Mem)) (hk17 : ∀ (x2 : Int32) (M : Mem), BL p l e (rmL 2) s m args below meth c LX D cy ad 3 (QV LX D cy ad) 17 [(0, .ref (ad 10)), (2, .int x2)] [] M (k17 x2 M)) (x2 : Int32) (M : Mem) : BL p l e (rmL 2) s m args below meth c LX D cy ad 3 (QV LX D cy ad) 17 [(0, .ref (ad 10)), (2, .int x2)] [] M (bX6_begin_17 n0 q1 k17 x2 M) := by
  unfold bX6_begin_17
  refine b_iload_n hO dX6_begin_17 1 rfl rfl ?_
  refine b_aload_n hO dX6_begin_18 0 rfl rfl ?_
  refine b_getR hO flX6_34 kLX_10 (id := 1280) rfl rfl (rk := 9) rfl (by decide) dX6_begin_19 (fun hg1 => ?_)
  refine b_get hO flX6_38 hg1 (v := .int (gI _ (128 * (gR M 1280) + 5))) rfl dX6_begin_22 ?_
  refine b_icmp_ge hO dX6_begin_25 (tgt := 48) (by decide) ?_ ?_
  · refine b_iconst hO dX6_begin_48 ic_i_0 ?_
    refine b_istore_n hO dX6_begin_49 rfl (by decide) (lv' := [(2, .int _), (0, .ref _)]) rfl ?_
    refine b_sub [1, 0] rfl ?_
    exact tfX6_begin_50 n0 q1 hq1 hO _ _
  · refine b_aload_n hO dX6_begin_28 0 rfl rfl ?_
    refine b_iload_n hO dX6_begin_29 1 rfl rfl ?_
    refine b_aload_n hO dX6_begin_30 0 rfl rfl ?_
    refine b_getR hO flX6_34 kLX_10 (id := 1280) rfl rfl (rk := 9) rfl (by decide) dX6_begin_31 (fun hg2 => ?_)
    refine b_get hO flX6_43 hg2 (v := .ref (ad ((gR M 1280) + 5))) rfl dX6_begin_34 ?_
    refine b_iload_n hO dX6_begin_37 1 rfl rfl ?_
    refine b_iald hO (kt_9_5 hg2) (n := 5) (lt_9_5 hg2) dX6_begin_38 ?_
    refine b_callVV hO mdX6_put mvX6_put w548 (ci := 6) rfl rfl (by decide) kLX_10 (As := [.int _, .int _]) (st := []) (ctX6_put n0 hO.2.2.2.2.2.2.1 _ _ _) (Nat.le_of_ble_eq_true rfl) rfl rfl (Nat.le_of_ble_eq_true rfl) dX6_begin_39 (fun z39 => ?_)
    refine b_iinc hO dX6_begin_42 1 rfl ic_i_1 (by decide) (lv' := [(2, .int _), (0, .ref _)]) rfl ?_
    refine b_goto hO dX6_begin_45 (tgt := 17) (by decide) ?_
    refine b_sub [1, 0] rfl ?_
    exact hk17 _ _
theorem lX6_begin_17 (n0 : Nat) (q1 : Nat) (hq1 : isK LX q1 9) (hO : OKc p (rmL 2) s m args meth c LX D cy ad cX6_begin RX6 3 2 none) : ∀ (w : Nat) (x2 : Int32) (M : Mem), BL p l e (rmL 2) s m args below meth c LX D cy ad 3 (QV LX D cy ad) 17 [(0, .ref (ad 10)), (2, .int x2)] [] M (loopN (bX6_begin_17 n0 q1) (fun _ _ => none) w x2 M) := by
  intro w
  induction w with
  | zero =>
    intros
    exact b_none
  | succ w ih =>
    intro x2 M
    exact tbX6_begin_17 n0 q1 hq1 hO _ ih x2 M
theorem tfX6_begin_17 (n0 : Nat) (q1 : Nat) (hq1 : isK LX q1 9) (hO : OKc p (rmL 2) s m args meth c LX D cy ad cX6_begin RX6 3 2 none) (x2 : Int32) (M : Mem) : BL p l e (rmL 2) s m args below meth c LX D cy ad 3 (QV LX D cy ad) 17 [(0, .ref (ad 10)), (2, .int x2)] [] M (fX6_begin_17 n0 q1 x2 M) := lX6_begin_17 n0 q1 hq1 hO n0 x2 M
theorem tfX6_begin (n0 : Nat) (q1 : Nat) (hq1 : isK LX q1 9) (hO : OKc p (rmL 2) s m args meth c LX D cy ad cX6_begin RX6 3 2 none) (M : Mem) : BL p l e (rmL 2) s m args below meth c LX D cy ad 3 (QV LX D cy ad) 0 [(0, .ref (ad 10)), (1, .ref (ad q1))] [] M (fX6_begin n0 q1 M) := by
  unfold fX6_begin
  refine b_aload_n hO dX6_begin_0 0 rfl rfl ?_
  refine b_aload_n hO dX6_begin_1 1 rfl rfl ?_
  refine b_putR hO flX6_34 kLX_10 rfl (id := 1280) rfl hq1 rfl rfl dX6_begin_2 ?_
  refine b_bnd (fun M2 => ?_)
  refine b_aload_n hO dX6_begin_5 0 rfl rfl ?_
  refine b_iconst hO dX6_begin_6 ic_i_0 ?_
  refine b_putI hO flX6_9 kLX_10 rfl rfl rfl (id := 1281) rfl dX6_begin_7 ?_
  refine b_bnd (fun M7 => ?_)
  refine b_aload_n hO dX6_begin_10 0 rfl rfl ?_
  refine b_iconst hO dX6_begin_11 ic_i_0 ?_
  refine b_putI hO flX6_25 kLX_10 rfl rfl rfl (id := 1285) rfl dX6_begin_12 ?_
  refine b_bnd (fun M12 => ?_)
  refine b_iconst hO dX6_begin_15 ic_i_0 ?_
  refine b_istore_n hO dX6_begin_16 rfl (by decide) (lv' := [(2, .int _), (0, .ref _), (1, .ref _)]) rfl ?_
  refine b_sub [1, 0] rfl ?_
  exact tfX6_begin_17 n0 q1 hq1 hO _ _
theorem ctX6_begin (n0 : Nat) (q1 : Nat) (hq1 : isK LX q1 9) (hI : Inj LX ad) (M : Mem) : CT l LX D cy ad yX6_begin cX6_begin 3 none 2 (QV LX D cy ad) [.ref (ad 10), .ref (ad q1)] M (fX6_begin n0 q1 M) :=
  CT.mk LXok hI (by decide) (Nat.le_of_ble_eq_true rfl) (fun hO => tfX6_begin n0 q1 hq1 hO M)
/-! X6_countDone -/
def bX6_countDone_4 (n0 : Nat) (k4 : Int32 → Int32 → Mem → Option (Int32 × Mem)) (x1 : Int32) (x2 : Int32) (M : Mem) : Option (Int32 × Mem) :=
  if (gI M (128 * (gR M 1280) + 12)) ≤ x2 then
    some (x1, M)
  else
    if oob x2 6 then none else
    bnd (x1 + (gA M 13 (Int32.toNatClampNeg x2))) fun x1_23 =>
    k4 x1_23 (x2 + (1 : Int32)) M
def fX6_countDone_4 (n0 : Nat) : Int32 → Int32 → Mem → Option (Int32 × Mem) := loopN (bX6_countDone_4 n0) (fun _ _ _ => none) n0
def fX6_countDone (n0 : Nat) (M : Mem) : Option (Int32 × Mem) :=
  fX6_countDone_4 n0 (0 : Int32) (0 : Int32) M
theorem tbX6_countDone_4 (n0 : Nat) (hO : OKc p (rmL 1) s m args meth c LX D cy ad cX6_countDone RX6 3 1 (some .int)) (k4 : Int32 → Int32 → Mem → Option (Int32 × Mem)) (hk4 : ∀ (x1 : Int32) (x2 : Int32) (M : Mem), BL p l e (rmL 1) s m args below meth c LX D cy ad 3 (QI LX D cy ad) 4 [(0, .ref (ad 10)), (1, .int x1), (2, .int x2)] [] M (k4 x1 x2 M)) (x1 : Int32) (x2 : Int32) (M : Mem) : BL p l e (rmL 1) s m args below meth c LX D cy ad 3 (QI LX D cy ad) 4 [(0, .ref (ad 10)), (1, .int x1), (2, .int x2)] [] M (bX6_countDone_4 n0 k4 x1 x2 M) := by
  unfold bX6_countDone_4
  refine b_iload_n hO dX6_countDone_4 2 rfl rfl ?_
  refine b_aload_n hO dX6_countDone_5 0 rfl rfl ?_
  refine b_getR hO flX6_34 kLX_10 (id := 1280) rfl rfl (rk := 9) rfl (by decide) dX6_countDone_6 (fun hg1 => ?_)
  refine b_get hO flX6_50 hg1 (v := .int (gI _ (128 * (gR M 1280) + 12))) rfl dX6_countDone_9 ?_
  refine b_icmp_ge hO dX6_countDone_12 (tgt := 30) (by decide) ?_ ?_
  · refine b_iload_n hO dX6_countDone_30 1 rfl rfl ?_
    exact b_iret hO dX6_countDone_31
  · refine b_iload_n hO dX6_countDone_15 1 rfl rfl ?_
    refine b_aload_n hO dX6_countDone_16 0 rfl rfl ?_
    refine b_get hO flX6_22 kLX_10 (v := .ref (ad 13)) rfl dX6_countDone_17 ?_
    refine b_iload_n hO dX6_countDone_20 2 rfl rfl ?_
    refine b_iald hO kLX_13 (n := 6) rfl dX6_countDone_21 ?_
    refine b_iadd hO dX6_countDone_22 ?_
    refine b_topI (fun x1_23 => ?_)
    refine b_istore_n hO dX6_countDone_23 rfl (by decide) (lv' := [(1, .int _), (0, .ref _), (2, .int _)]) rfl ?_
    refine b_iinc hO dX6_countDone_24 2 rfl ic_i_1 (by decide) (lv' := [(2, .int _), (1, .int _), (0, .ref _)]) rfl ?_
    refine b_goto hO dX6_countDone_27 (tgt := 4) (by decide) ?_
    refine b_sub [2, 1, 0] rfl ?_
    exact hk4 _ _ _
theorem lX6_countDone_4 (n0 : Nat) (hO : OKc p (rmL 1) s m args meth c LX D cy ad cX6_countDone RX6 3 1 (some .int)) : ∀ (w : Nat) (x1 : Int32) (x2 : Int32) (M : Mem), BL p l e (rmL 1) s m args below meth c LX D cy ad 3 (QI LX D cy ad) 4 [(0, .ref (ad 10)), (1, .int x1), (2, .int x2)] [] M (loopN (bX6_countDone_4 n0) (fun _ _ _ => none) w x1 x2 M) := by
  intro w
  induction w with
  | zero =>
    intros
    exact b_none
  | succ w ih =>
    intro x1 x2 M
    exact tbX6_countDone_4 n0 hO _ ih x1 x2 M
theorem tfX6_countDone_4 (n0 : Nat) (hO : OKc p (rmL 1) s m args meth c LX D cy ad cX6_countDone RX6 3 1 (some .int)) (x1 : Int32) (x2 : Int32) (M : Mem) : BL p l e (rmL 1) s m args below meth c LX D cy ad 3 (QI LX D cy ad) 4 [(0, .ref (ad 10)), (1, .int x1), (2, .int x2)] [] M (fX6_countDone_4 n0 x1 x2 M) := lX6_countDone_4 n0 hO n0 x1 x2 M
theorem tfX6_countDone (n0 : Nat) (hO : OKc p (rmL 1) s m args meth c LX D cy ad cX6_countDone RX6 3 1 (some .int)) (M : Mem) : BL p l e (rmL 1) s m args below meth c LX D cy ad 3 (QI LX D cy ad) 0 [(0, .ref (ad 10))] [] M (fX6_countDone n0 M) := by
  unfold fX6_countDone
  refine b_iconst hO dX6_countDone_0 ic_i_0 ?_
  refine b_istore_n hO dX6_countDone_1 rfl (by decide) (lv' := [(1, .int _), (0, .ref _)]) rfl ?_
  refine b_iconst hO dX6_countDone_2 ic_i_0 ?_
  refine b_istore_n hO dX6_countDone_3 rfl (by decide) (lv' := [(2, .int _), (1, .int _), (0, .ref _)]) rfl ?_
  refine b_sub [2, 1, 0] rfl ?_
  exact tfX6_countDone_4 n0 hO _ _ _
theorem ctX6_countDone (n0 : Nat) (hI : Inj LX ad) (M : Mem) : CT l LX D cy ad yX6_countDone cX6_countDone 3 (some .int) 1 (QI LX D cy ad) [.ref (ad 10)] M (fX6_countDone n0 M) :=
  CT.mk LXok hI (by decide) (Nat.le_of_ble_eq_true rfl) (fun hO => tfX6_countDone n0 hO M)
/-! X6_countEmpty -/
def fX6_countEmpty_28 (n0 : Nat) (k4 : Int32 → Int32 → Mem → Option (Int32 × Mem)) (x1 : Int32) (x2 : Int32) (M : Mem) : Option (Int32 × Mem) :=
  k4 x1 (x2 + (1 : Int32)) M
def bX6_countEmpty_4 (n0 : Nat) (k4 : Int32 → Int32 → Mem → Option (Int32 × Mem)) (x1 : Int32) (x2 : Int32) (M : Mem) : Option (Int32 × Mem) :=
  if (gI M (128 * (gR M 1280) + 5)) ≤ x2 then
    some (x1, M)
  else
    if oob x2 5 then none else
    if (gA M 11 (Int32.toNatClampNeg x2)) = (-1 : Int32) then
      fX6_countEmpty_28 n0 k4 (x1 + (1 : Int32)) x2 M
    else
      fX6_countEmpty_28 n0 k4 x1 x2 M
def fX6_countEmpty_4 (n0 : Nat) : Int32 → Int32 → Mem → Option (Int32 × Mem) := loopN (bX6_countEmpty_4 n0) (fun _ _ _ => none) n0
def fX6_countEmpty (n0 : Nat) (M : Mem) : Option (Int32 × Mem) :=
  fX6_countEmpty_4 n0 (0 : Int32) (0 : Int32) M
theorem tfX6_countEmpty_28 (n0 : Nat) (hO : OKc p (rmL 1) s m args meth c LX D cy ad cX6_countEmpty RX6 3 1 (some .int)) (k4 : Int32 → Int32 → Mem → Option (Int32 × Mem)) (hk4 : ∀ (x1 : Int32) (x2 : Int32) (M : Mem), BL p l e (rmL 1) s m args below meth c LX D cy ad 3 (QI LX D cy ad) 4 [(0, .ref (ad 10)), (1, .int x1), (2, .int x2)] [] M (k4 x1 x2 M)) (x1 : Int32) (x2 : Int32) (M : Mem) : BL p l e (rmL 1) s m args below meth c LX D cy ad 3 (QI LX D cy ad) 28 [(0, .ref (ad 10)), (1, .int x1), (2, .int x2)] [] M (fX6_countEmpty_28 n0 k4 x1 x2 M) := by
  unfold fX6_countEmpty_28
  refine b_iinc hO dX6_countEmpty_28 2 rfl ic_i_1 (by decide) (lv' := [(2, .int _), (0, .ref _), (1, .int _)]) rfl ?_
  refine b_goto hO dX6_countEmpty_31 (tgt := 4) (by decide) ?_
  refine b_sub [1, 2, 0] rfl ?_
  exact hk4 _ _ _
theorem tbX6_countEmpty_4 (n0 : Nat) (hO : OKc p (rmL 1) s m args meth c LX D cy ad cX6_countEmpty RX6 3 1 (some .int)) (k4 : Int32 → Int32 → Mem → Option (Int32 × Mem)) (hk4 : ∀ (x1 : Int32) (x2 : Int32) (M : Mem), BL p l e (rmL 1) s m args below meth c LX D cy ad 3 (QI LX D cy ad) 4 [(0, .ref (ad 10)), (1, .int x1), (2, .int x2)] [] M (k4 x1 x2 M)) (x1 : Int32) (x2 : Int32) (M : Mem) : BL p l e (rmL 1) s m args below meth c LX D cy ad 3 (QI LX D cy ad) 4 [(0, .ref (ad 10)), (1, .int x1), (2, .int x2)] [] M (bX6_countEmpty_4 n0 k4 x1 x2 M) := by
  unfold bX6_countEmpty_4
  refine b_iload_n hO dX6_countEmpty_4 2 rfl rfl ?_
  refine b_aload_n hO dX6_countEmpty_5 0 rfl rfl ?_
  refine b_getR hO flX6_34 kLX_10 (id := 1280) rfl rfl (rk := 9) rfl (by decide) dX6_countEmpty_6 (fun hg1 => ?_)
  refine b_get hO flX6_38 hg1 (v := .int (gI _ (128 * (gR M 1280) + 5))) rfl dX6_countEmpty_9 ?_
  refine b_icmp_ge hO dX6_countEmpty_12 (tgt := 34) (by decide) ?_ ?_
  · refine b_iload_n hO dX6_countEmpty_34 1 rfl rfl ?_
    exact b_iret hO dX6_countEmpty_35
  · refine b_aload_n hO dX6_countEmpty_15 0 rfl rfl ?_
    refine b_get hO flX6_15 kLX_10 (v := .ref (ad 11)) rfl dX6_countEmpty_16 ?_
    refine b_iload_n hO dX6_countEmpty_19 2 rfl rfl ?_
    refine b_iald hO kLX_11 (n := 5) rfl dX6_countEmpty_20 ?_
    refine b_iconst hO dX6_countEmpty_21 ic_i_m1 ?_
    refine b_icmp_ne hO dX6_countEmpty_22 (tgt := 28) (by decide) ?_ ?_
    · exact tfX6_countEmpty_28 n0 hO k4 hk4 _ _ _
    · refine b_iinc hO dX6_countEmpty_25 1 rfl ic_i_1 (by decide) (lv' := [(1, .int _), (0, .ref _), (2, .int _)]) rfl ?_
      refine b_sub [1, 0, 2] rfl ?_
      exact tfX6_countEmpty_28 n0 hO k4 hk4 _ _ _
theorem lX6_countEmpty_4 (n0 : Nat) (hO : OKc p (rmL 1) s m args meth c LX D cy ad cX6_countEmpty RX6 3 1 (some .int)) : ∀ (w : Nat) (x1 : Int32) (x2 : Int32) (M : Mem), BL p l e (rmL 1) s m args below meth c LX D cy ad 3 (QI LX D cy ad) 4 [(0, .ref (ad 10)), (1, .int x1), (2, .int x2)] [] M (loopN (bX6_countEmpty_4 n0) (fun _ _ _ => none) w x1 x2 M) := by
  intro w
  induction w with
  | zero =>
    intros
    exact b_none
  | succ w ih =>
    intro x1 x2 M
    exact tbX6_countEmpty_4 n0 hO _ ih x1 x2 M
theorem tfX6_countEmpty_4 (n0 : Nat) (hO : OKc p (rmL 1) s m args meth c LX D cy ad cX6_countEmpty RX6 3 1 (some .int)) (x1 : Int32) (x2 : Int32) (M : Mem) : BL p l e (rmL 1) s m args below meth c LX D cy ad 3 (QI LX D cy ad) 4 [(0, .ref (ad 10)), (1, .int x1), (2, .int x2)] [] M (fX6_countEmpty_4 n0 x1 x2 M) := lX6_countEmpty_4 n0 hO n0 x1 x2 M
theorem tfX6_countEmpty (n0 : Nat) (hO : OKc p (rmL 1) s m args meth c LX D cy ad cX6_countEmpty RX6 3 1 (some .int)) (M : Mem) : BL p l e (rmL 1) s m args below meth c LX D cy ad 3 (QI LX D cy ad) 0 [(0, .ref (ad 10))] [] M (fX6_countEmpty n0 M) := by
  unfold fX6_countEmpty
  refine b_iconst hO dX6_countEmpty_0 ic_i_0 ?_
  refine b_istore_n hO dX6_countEmpty_1 rfl (by decide) (lv' := [(1, .int _), (0, .ref _)]) rfl ?_
  refine b_iconst hO dX6_countEmpty_2 ic_i_0 ?_
  refine b_istore_n hO dX6_countEmpty_3 rfl (by decide) (lv' := [(2, .int _), (1, .int _), (0, .ref _)]) rfl ?_
  refine b_sub [2, 1, 0] rfl ?_
  exact tfX6_countEmpty_4 n0 hO _ _ _
theorem ctX6_countEmpty (n0 : Nat) (hI : Inj LX ad) (M : Mem) : CT l LX D cy ad yX6_countEmpty cX6_countEmpty 3 (some .int) 1 (QI LX D cy ad) [.ref (ad 10)] M (fX6_countEmpty n0 M) :=
  CT.mk LXok hI (by decide) (Nat.le_of_ble_eq_true rfl) (fun hO => tfX6_countEmpty n0 hO M)
/-! X6_goOn -/
def bX6_goOn_2 (n0 : Nat) (k2 : Int32 → Mem → Option (Mem)) (x2 : Int32) (M : Mem) : Option (Mem) :=
  if (gI M (128 * (gR M 1280) + 5)) ≤ x2 then
    some (sI M 1281 (imin (9999 : Int32) ((gI M 1281) + (1 : Int32))))
  else
    if oob x2 5 then none else
    if oob x2 5 then none else
    (fX1_hold n0 x2 (gA M 11 (Int32.toNatClampNeg x2)) (gA M 12 (Int32.toNatClampNeg x2)) (gI M 1281) M).bind fun z31 =>
    (fX1_goOn n0 z31).bind fun z35 =>
    if oob x2 5 then none else
    bnd (sA z35 11 (Int32.toNatClampNeg x2) (gI z35 898)) fun M47 =>
    if oob x2 5 then none else
    bnd (sA M47 12 (Int32.toNatClampNeg x2) (gI M47 899)) fun M57 =>
    k2 (x2 + (1 : Int32)) M57
def fX6_goOn_2 (n0 : Nat) : Int32 → Mem → Option (Mem) := loopN (bX6_goOn_2 n0) (fun _ _ => none) n0
def fX6_goOn (n0 : Nat) (M : Mem) : Option (Mem) :=
  fX6_goOn_2 n0 (0 : Int32) M
theorem tbX6_goOn_2 (n0 : Nat) (hO : OKc p (rmL 5) s m args meth c LX D cy ad cX6_goOn RX6 3 5 none) (k2 : Int32 → Mem → Option (Mem)) (hk2 : ∀ (x2 : Int32) (M : Mem), BL p l e (rmL 5) s m args below meth c LX D cy ad 3 (QV LX D cy ad) 2 [(0, .ref (ad 10)), (1, .ref (ad 7)), (2, .int x2)] [] M (k2 x2 M)) (x2 : Int32) (M : Mem) : BL p l e (rmL 5) s m args below meth c LX D cy ad 3 (QV LX D cy ad) 2 [(0, .ref (ad 10)), (1, .ref (ad 7)), (2, .int x2)] [] M (bX6_goOn_2 n0 k2 x2 M) := by
  unfold bX6_goOn_2
  refine b_iload_n hO dX6_goOn_2 2 rfl rfl ?_
  refine b_aload_n hO dX6_goOn_3 0 rfl rfl ?_
  refine b_getR hO flX6_34 kLX_10 (id := 1280) rfl rfl (rk := 9) rfl (by decide) dX6_goOn_4 (fun hg1 => ?_)
  refine b_get hO flX6_38 hg1 (v := .int (gI _ (128 * (gR M 1280) + 5))) rfl dX6_goOn_7 ?_
  refine b_icmp_ge hO dX6_goOn_10 (tgt := 64) (by decide) ?_ ?_
  · refine b_aload_n hO dX6_goOn_64 0 rfl rfl ?_
    refine b_sipush hO dX6_goOn_65 ic_s_9999 ?_
    refine b_aload_n hO dX6_goOn_68 0 rfl rfl ?_
    refine b_get hO flX6_9 kLX_10 (v := .int (gI _ 1281)) rfl dX6_goOn_69 ?_
    refine b_iconst hO dX6_goOn_72 ic_i_1 ?_
    refine b_iadd hO dX6_goOn_73 ?_
    refine b_mmin hO w1145 w591 w136 wm592 (by first | decide | omega) (Nat.le_of_ble_eq_true rfl) dX6_goOn_74 ?_
    refine b_putI hO flX6_9 kLX_10 rfl rfl rfl (id := 1281) rfl dX6_goOn_77 ?_
    exact b_vret hO dX6_goOn_80
  · refine b_aload_n hO dX6_goOn_13 1 rfl rfl ?_
    refine b_iload_n hO dX6_goOn_14 2 rfl rfl ?_
    refine b_aload_n hO dX6_goOn_15 0 rfl rfl ?_
    refine b_get hO flX6_15 kLX_10 (v := .ref (ad 11)) rfl dX6_goOn_16 ?_
    refine b_iload_n hO dX6_goOn_19 2 rfl rfl ?_
    refine b_iald hO kLX_11 (n := 5) rfl dX6_goOn_20 ?_
    refine b_aload_n hO dX6_goOn_21 0 rfl rfl ?_
    refine b_get hO flX6_19 kLX_10 (v := .ref (ad 12)) rfl dX6_goOn_22 ?_
    refine b_iload_n hO dX6_goOn_25 2 rfl rfl ?_
    refine b_iald hO kLX_12 (n := 5) rfl dX6_goOn_26 ?_
    refine b_aload_n hO dX6_goOn_27 0 rfl rfl ?_
    refine b_get hO flX6_9 kLX_10 (v := .int (gI _ 1281)) rfl dX6_goOn_28 ?_
    refine b_callVV hO mdX1_hold mvX1_hold w560 (ci := 1) rfl rfl (by decide) kLX_7 (As := [.int _, .int _, .int _, .int _]) (st := []) (ctX1_hold n0 hO.2.2.2.2.2.2.1 _ _ _ _ _) (Nat.le_of_ble_eq_true rfl) rfl rfl (Nat.le_of_ble_eq_true rfl) dX6_goOn_31 (fun z31 => ?_)
    refine b_aload_n hO dX6_goOn_34 1 rfl rfl ?_
    refine b_callVV hO mdX1_goOn mvX1_goOn w1144 (ci := 1) rfl rfl (by decide) kLX_7 (As := []) (st := []) (ctX1_goOn n0 hO.2.2.2.2.2.2.1 _) (Nat.le_of_ble_eq_true rfl) rfl rfl (Nat.le_of_ble_eq_true rfl) dX6_goOn_35 (fun z35 => ?_)
    refine b_aload_n hO dX6_goOn_38 0 rfl rfl ?_
    refine b_get hO flX6_15 kLX_10 (v := .ref (ad 11)) rfl dX6_goOn_39 ?_
    refine b_iload_n hO dX6_goOn_42 2 rfl rfl ?_
    refine b_aload_n hO dX6_goOn_43 1 rfl rfl ?_
    refine b_get hO flX6_62 kLX_7 (v := .int (gI _ 898)) rfl dX6_goOn_44 ?_
    refine b_iast hO kLX_11 (n := 5) rfl dX6_goOn_47 ?_
    refine b_bnd (fun M47 => ?_)
    refine b_aload_n hO dX6_goOn_48 0 rfl rfl ?_
    refine b_get hO flX6_19 kLX_10 (v := .ref (ad 12)) rfl dX6_goOn_49 ?_
    refine b_iload_n hO dX6_goOn_52 2 rfl rfl ?_
    refine b_aload_n hO dX6_goOn_53 1 rfl rfl ?_
    refine b_get hO flX6_65 kLX_7 (v := .int (gI _ 899)) rfl dX6_goOn_54 ?_
    refine b_iast hO kLX_12 (n := 5) rfl dX6_goOn_57 ?_
    refine b_bnd (fun M57 => ?_)
    refine b_iinc hO dX6_goOn_58 2 rfl ic_i_1 (by decide) (lv' := [(2, .int _), (0, .ref _), (1, .ref _)]) rfl ?_
    refine b_goto hO dX6_goOn_61 (tgt := 2) (by decide) ?_
    refine b_sub [1, 2, 0] rfl ?_
    exact hk2 _ _
theorem lX6_goOn_2 (n0 : Nat) (hO : OKc p (rmL 5) s m args meth c LX D cy ad cX6_goOn RX6 3 5 none) : ∀ (w : Nat) (x2 : Int32) (M : Mem), BL p l e (rmL 5) s m args below meth c LX D cy ad 3 (QV LX D cy ad) 2 [(0, .ref (ad 10)), (1, .ref (ad 7)), (2, .int x2)] [] M (loopN (bX6_goOn_2 n0) (fun _ _ => none) w x2 M) := by
  intro w
  induction w with
  | zero =>
    intros
    exact b_none
  | succ w ih =>
    intro x2 M
    exact tbX6_goOn_2 n0 hO _ ih x2 M
theorem tfX6_goOn_2 (n0 : Nat) (hO : OKc p (rmL 5) s m args meth c LX D cy ad cX6_goOn RX6 3 5 none) (x2 : Int32) (M : Mem) : BL p l e (rmL 5) s m args below meth c LX D cy ad 3 (QV LX D cy ad) 2 [(0, .ref (ad 10)), (1, .ref (ad 7)), (2, .int x2)] [] M (fX6_goOn_2 n0 x2 M) := lX6_goOn_2 n0 hO n0 x2 M
theorem tfX6_goOn (n0 : Nat) (hO : OKc p (rmL 5) s m args meth c LX D cy ad cX6_goOn RX6 3 5 none) (M : Mem) : BL p l e (rmL 5) s m args below meth c LX D cy ad 3 (QV LX D cy ad) 0 [(0, .ref (ad 10)), (1, .ref (ad 7))] [] M (fX6_goOn n0 M) := by
  unfold fX6_goOn
  refine b_iconst hO dX6_goOn_0 ic_i_0 ?_
  refine b_istore_n hO dX6_goOn_1 rfl (by decide) (lv' := [(2, .int _), (0, .ref _), (1, .ref _)]) rfl ?_
  refine b_sub [1, 2, 0] rfl ?_
  exact tfX6_goOn_2 n0 hO _ _
theorem ctX6_goOn (n0 : Nat) (hI : Inj LX ad) (M : Mem) : CT l LX D cy ad yX6_goOn cX6_goOn 3 none 5 (QV LX D cy ad) [.ref (ad 10), .ref (ad 7)] M (fX6_goOn n0 M) :=
  CT.mk LXok hI (by decide) (Nat.le_of_ble_eq_true rfl) (fun hO => tfX6_goOn n0 hO M)
/-! X6_isDue -/
def fX6_isDue (n0 : Nat) (x1 : Int32) (M : Mem) : Option (Int32 × Mem) :=
  if oob x1 6 then none else
  bnd (gA M ((gR M 1280) + 10) (Int32.toNatClampNeg x1)) fun x3_9 =>
  if oob x3_9 5 then none else
  if oob x3_9 5 then none else
  (fX1_hold n0 x3_9 (gA M 11 (Int32.toNatClampNeg x3_9)) (gA M 12 (Int32.toNatClampNeg x3_9)) (gI M 1281) M).bind fun z28 =>
  (fX1_hourNow n0 z28).bind fun z32 =>
  if oob x1 6 then none else
  if z32.1 = (gA z32.2 ((gR z32.2 1280) + 11) (Int32.toNatClampNeg x1)) then
    some ((1 : Int32), z32.2)
  else
    some ((0 : Int32), z32.2)
theorem tfX6_isDue (n0 : Nat) (hO : OKc p (rmL 5) s m args meth c LX D cy ad cX6_isDue RX6 4 5 (some .boolean)) (x1 : Int32) (M : Mem) : BL p l e (rmL 5) s m args below meth c LX D cy ad 4 (QI LX D cy ad) 0 [(0, .ref (ad 10)), (1, .int x1), (2, .ref (ad 7))] [] M (fX6_isDue n0 x1 M) := by
  unfold fX6_isDue
  refine b_aload_n hO dX6_isDue_0 0 rfl rfl ?_
  refine b_getR hO flX6_34 kLX_10 (id := 1280) rfl rfl (rk := 9) rfl (by decide) dX6_isDue_1 (fun hg1 => ?_)
  refine b_get hO flX6_81 hg1 (v := .ref (ad ((gR M 1280) + 10))) rfl dX6_isDue_4 ?_
  refine b_iload_n hO dX6_isDue_7 1 rfl rfl ?_
  refine b_iald hO (kt_9_10 hg1) (n := 6) (lt_9_10 hg1) dX6_isDue_8 ?_
  refine b_topI (fun x3_9 => ?_)
  refine b_istore_n hO dX6_isDue_9 rfl (by decide) (lv' := [(3, .int _), (0, .ref _), (1, .int _), (2, .ref _)]) rfl ?_
  refine b_aload_n hO dX6_isDue_10 3 rfl rfl ?_
  refine b_iload_n hO dX6_isDue_11 0 rfl rfl ?_
  refine b_aload_n hO dX6_isDue_12 1 rfl rfl ?_
  refine b_get hO flX6_15 kLX_10 (v := .ref (ad 11)) rfl dX6_isDue_13 ?_
  refine b_iload_n hO dX6_isDue_16 0 rfl rfl ?_
  refine b_iald hO kLX_11 (n := 5) rfl dX6_isDue_17 ?_
  refine b_aload_n hO dX6_isDue_18 1 rfl rfl ?_
  refine b_get hO flX6_19 kLX_10 (v := .ref (ad 12)) rfl dX6_isDue_19 ?_
  refine b_iload_n hO dX6_isDue_22 0 rfl rfl ?_
  refine b_iald hO kLX_12 (n := 5) rfl dX6_isDue_23 ?_
  refine b_aload_n hO dX6_isDue_24 1 rfl rfl ?_
  refine b_get hO flX6_9 kLX_10 (v := .int (gI _ 1281)) rfl dX6_isDue_25 ?_
  refine b_callVV hO mdX1_hold mvX1_hold w560 (ci := 1) rfl rfl (by decide) kLX_7 (As := [.int _, .int _, .int _, .int _]) (st := []) (ctX1_hold n0 hO.2.2.2.2.2.2.1 _ _ _ _ _) (Nat.le_of_ble_eq_true rfl) rfl rfl (Nat.le_of_ble_eq_true rfl) dX6_isDue_28 (fun z28 => ?_)
  refine b_aload_n hO dX6_isDue_31 3 rfl rfl ?_
  refine b_callVI hO mdX1_hourNow mvX1_hourNow w564 (ci := 1) rfl rfl (by decide) kLX_7 (As := []) (st := []) (ctX1_hourNow n0 hO.2.2.2.2.2.2.1 _) (Nat.le_of_ble_eq_true rfl) rfl rfl (Nat.le_of_ble_eq_true rfl) dX6_isDue_32 (fun z32 => ?_)
  refine b_aload_n hO dX6_isDue_35 1 rfl rfl ?_
  refine b_getR hO flX6_34 kLX_10 (id := 1280) rfl rfl (rk := 9) rfl (by decide) dX6_isDue_36 (fun hg2 => ?_)
  refine b_get hO flX6_88 hg2 (v := .ref (ad ((gR z32.2 1280) + 11))) rfl dX6_isDue_39 ?_
  refine b_iload_n hO dX6_isDue_42 2 rfl rfl ?_
  refine b_iald hO (kt_9_11 hg2) (n := 6) (lt_9_11 hg2) dX6_isDue_43 ?_
  refine b_icmp_ne hO dX6_isDue_44 (tgt := 51) (by decide) ?_ ?_
  · refine b_iconst hO dX6_isDue_51 ic_i_0 ?_
    exact b_zretc hO (Or.inl rfl) dX6_isDue_52
  · refine b_iconst hO dX6_isDue_47 ic_i_1 ?_
    refine b_goto hO dX6_isDue_48 (tgt := 52) (by decide) ?_
    exact b_zretc hO (Or.inr rfl) dX6_isDue_52
theorem ctX6_isDue (n0 : Nat) (hI : Inj LX ad) (x1 : Int32) (M : Mem) : CT l LX D cy ad yX6_isDue cX6_isDue 4 (some .boolean) 5 (QI LX D cy ad) [.ref (ad 10), .int x1, .ref (ad 7)] M (fX6_isDue n0 x1 M) :=
  CT.mk LXok hI (by decide) (Nat.le_of_ble_eq_true rfl) (fun hO => tfX6_isDue n0 hO x1 M)
/-! X6_keep -/
def fX6_keep (n0 : Nat) (x1 : Int32) (M : Mem) : Option (Mem) :=
  if (6 : Int32) ≤ (gI M 1285) then
    some M
  else
    if oob (gI M 1285) 6 then none else
    bnd (sA M 14 (Int32.toNatClampNeg (gI M 1285)) (gI M 1281)) fun M21 =>
    if oob (gI M21 1285) 6 then none else
    bnd (sA M21 15 (Int32.toNatClampNeg (gI M21 1285)) x1) fun M31 =>
    some (sI M31 1285 ((gI M31 1285) + (1 : Int32)))
theorem tfX6_keep (n0 : Nat) (hO : OKc p (rmL 1) s m args meth c LX D cy ad cX6_keep RX6 2 1 none) (x1 : Int32) (M : Mem) : BL p l e (rmL 1) s m args below meth c LX D cy ad 2 (QV LX D cy ad) 0 [(0, .ref (ad 10)), (1, .int x1)] [] M (fX6_keep n0 x1 M) := by
  unfold fX6_keep
  refine b_aload_n hO dX6_keep_0 0 rfl rfl ?_
  refine b_get hO flX6_25 kLX_10 (v := .int (gI _ 1285)) rfl dX6_keep_1 ?_
  refine b_bipush hO dX6_keep_4 ic_b_6 ?_
  refine b_icmp_ge hO dX6_keep_6 (tgt := 42) (by decide) ?_ ?_
  · exact b_vret hO dX6_keep_42
  · refine b_aload_n hO dX6_keep_9 0 rfl rfl ?_
    refine b_get hO flX6_28 kLX_10 (v := .ref (ad 14)) rfl dX6_keep_10 ?_
    refine b_aload_n hO dX6_keep_13 0 rfl rfl ?_
    refine b_get hO flX6_25 kLX_10 (v := .int (gI _ 1285)) rfl dX6_keep_14 ?_
    refine b_aload_n hO dX6_keep_17 0 rfl rfl ?_
    refine b_get hO flX6_9 kLX_10 (v := .int (gI _ 1281)) rfl dX6_keep_18 ?_
    refine b_iast hO kLX_14 (n := 6) rfl dX6_keep_21 ?_
    refine b_bnd (fun M21 => ?_)
    refine b_aload_n hO dX6_keep_22 0 rfl rfl ?_
    refine b_get hO flX6_31 kLX_10 (v := .ref (ad 15)) rfl dX6_keep_23 ?_
    refine b_aload_n hO dX6_keep_26 0 rfl rfl ?_
    refine b_get hO flX6_25 kLX_10 (v := .int (gI _ 1285)) rfl dX6_keep_27 ?_
    refine b_iload_n hO dX6_keep_30 1 rfl rfl ?_
    refine b_iast hO kLX_15 (n := 6) rfl dX6_keep_31 ?_
    refine b_bnd (fun M31 => ?_)
    refine b_aload_n hO dX6_keep_32 0 rfl rfl ?_
    refine b_dup hO dX6_keep_33 rfl ?_
    refine b_get hO flX6_25 kLX_10 (v := .int (gI _ 1285)) rfl dX6_keep_34 ?_
    refine b_iconst hO dX6_keep_37 ic_i_1 ?_
    refine b_iadd hO dX6_keep_38 ?_
    refine b_putI hO flX6_25 kLX_10 rfl rfl rfl (id := 1285) rfl dX6_keep_39 ?_
    exact b_vret hO dX6_keep_42
theorem ctX6_keep (n0 : Nat) (hI : Inj LX ad) (x1 : Int32) (M : Mem) : CT l LX D cy ad yX6_keep cX6_keep 2 none 1 (QV LX D cy ad) [.ref (ad 10), .int x1] M (fX6_keep n0 x1 M) :=
  CT.mk LXok hI (by decide) (Nat.le_of_ble_eq_true rfl) (fun hO => tfX6_keep n0 hO x1 M)
/-! X6_doWhatIsDue -/
def fX6_doWhatIsDue_48 (n0 : Nat) (k4 : Int32 → Int32 → Mem → Option (Int32 × Mem)) (x2 : Int32) (x3 : Int32) (M : Mem) : Option (Int32 × Mem) :=
  k4 x2 (x3 + (1 : Int32)) M
def bX6_doWhatIsDue_4 (n0 : Nat) (k4 : Int32 → Int32 → Mem → Option (Int32 × Mem)) (x2 : Int32) (x3 : Int32) (M : Mem) : Option (Int32 × Mem) :=
  if (gI M (128 * (gR M 1280) + 12)) ≤ x3 then
    some (x2, M)
  else
    if oob x3 6 then none else
    if (gA M 13 (Int32.toNatClampNeg x3)) = 0 then
      (fX6_isDue n0 x3 M).bind fun z27 =>
      if z27.1 = 0 then
        fX6_doWhatIsDue_48 n0 k4 x2 x3 z27.2
      else
        if oob x3 6 then none else
        bnd (sA z27.2 13 (Int32.toNatClampNeg x3) (1 : Int32)) fun M39 =>
        (fX6_keep n0 x3 M39).bind fun z42 =>
        fX6_doWhatIsDue_48 n0 k4 (x2 + (1 : Int32)) x3 z42
    else
      fX6_doWhatIsDue_48 n0 k4 x2 x3 M
def fX6_doWhatIsDue_4 (n0 : Nat) : Int32 → Int32 → Mem → Option (Int32 × Mem) := loopN (bX6_doWhatIsDue_4 n0) (fun _ _ _ => none) n0
def fX6_doWhatIsDue (n0 : Nat) (M : Mem) : Option (Int32 × Mem) :=
  fX6_doWhatIsDue_4 n0 (0 : Int32) (0 : Int32) M
theorem tfX6_doWhatIsDue_48 (n0 : Nat) (hO : OKc p (rmL 6) s m args meth c LX D cy ad cX6_doWhatIsDue RX6 4 6 (some .int)) (k4 : Int32 → Int32 → Mem → Option (Int32 × Mem)) (hk4 : ∀ (x2 : Int32) (x3 : Int32) (M : Mem), BL p l e (rmL 6) s m args below meth c LX D cy ad 4 (QI LX D cy ad) 4 [(0, .ref (ad 10)), (1, .ref (ad 7)), (2, .int x2), (3, .int x3)] [] M (k4 x2 x3 M)) (x2 : Int32) (x3 : Int32) (M : Mem) : BL p l e (rmL 6) s m args below meth c LX D cy ad 4 (QI LX D cy ad) 48 [(0, .ref (ad 10)), (1, .ref (ad 7)), (2, .int x2), (3, .int x3)] [] M (fX6_doWhatIsDue_48 n0 k4 x2 x3 M) := by
  unfold fX6_doWhatIsDue_48
  refine b_iinc hO dX6_doWhatIsDue_48 3 rfl ic_i_1 (by decide) (lv' := [(3, .int _), (0, .ref _), (1, .ref _), (2, .int _)]) rfl ?_
  refine b_goto hO dX6_doWhatIsDue_51 (tgt := 4) (by decide) ?_
  refine b_sub [1, 2, 3, 0] rfl ?_
  exact hk4 _ _ _
theorem tbX6_doWhatIsDue_4 (n0 : Nat) (hO : OKc p (rmL 6) s m args meth c LX D cy ad cX6_doWhatIsDue RX6 4 6 (some .int)) (k4 : Int32 → Int32 → Mem → Option (Int32 × Mem)) (hk4 : ∀ (x2 : Int32) (x3 : Int32) (M : Mem), BL p l e (rmL 6) s m args below meth c LX D cy ad 4 (QI LX D cy ad) 4 [(0, .ref (ad 10)), (1, .ref (ad 7)), (2, .int x2), (3, .int x3)] [] M (k4 x2 x3 M)) (x2 : Int32) (x3 : Int32) (M : Mem) : BL p l e (rmL 6) s m args below meth c LX D cy ad 4 (QI LX D cy ad) 4 [(0, .ref (ad 10)), (1, .ref (ad 7)), (2, .int x2), (3, .int x3)] [] M (bX6_doWhatIsDue_4 n0 k4 x2 x3 M) := by
  unfold bX6_doWhatIsDue_4
  refine b_iload_n hO dX6_doWhatIsDue_4 3 rfl rfl ?_
  refine b_aload_n hO dX6_doWhatIsDue_5 0 rfl rfl ?_
  refine b_getR hO flX6_34 kLX_10 (id := 1280) rfl rfl (rk := 9) rfl (by decide) dX6_doWhatIsDue_6 (fun hg1 => ?_)
  refine b_get hO flX6_50 hg1 (v := .int (gI _ (128 * (gR M 1280) + 12))) rfl dX6_doWhatIsDue_9 ?_
  refine b_icmp_ge hO dX6_doWhatIsDue_12 (tgt := 54) (by decide) ?_ ?_
  · refine b_iload_n hO dX6_doWhatIsDue_54 2 rfl rfl ?_
    exact b_iret hO dX6_doWhatIsDue_55
  · refine b_aload_n hO dX6_doWhatIsDue_15 0 rfl rfl ?_
    refine b_get hO flX6_22 kLX_10 (v := .ref (ad 13)) rfl dX6_doWhatIsDue_16 ?_
    refine b_iload_n hO dX6_doWhatIsDue_19 3 rfl rfl ?_
    refine b_iald hO kLX_13 (n := 6) rfl dX6_doWhatIsDue_20 ?_
    refine b_if_ne hO dX6_doWhatIsDue_21 (tgt := 48) (by decide) ?_ ?_
    · exact tfX6_doWhatIsDue_48 n0 hO k4 hk4 _ _ _
    · refine b_aload_n hO dX6_doWhatIsDue_24 0 rfl rfl ?_
      refine b_iload_n hO dX6_doWhatIsDue_25 3 rfl rfl ?_
      refine b_aload_n hO dX6_doWhatIsDue_26 1 rfl rfl ?_
      refine b_callVI hO mdX6_isDue mvX6_isDue w556 (ci := 6) rfl rfl (by decide) kLX_10 (As := [.int _, .ref _]) (st := []) (ctX6_isDue n0 hO.2.2.2.2.2.2.1 _ _) (Nat.le_of_ble_eq_true rfl) rfl rfl (Nat.le_of_ble_eq_true rfl) dX6_doWhatIsDue_27 (fun z27 => ?_)
      refine b_if_eq hO dX6_doWhatIsDue_30 (tgt := 48) (by decide) ?_ ?_
      · exact tfX6_doWhatIsDue_48 n0 hO k4 hk4 _ _ _
      · refine b_aload_n hO dX6_doWhatIsDue_33 0 rfl rfl ?_
        refine b_get hO flX6_22 kLX_10 (v := .ref (ad 13)) rfl dX6_doWhatIsDue_34 ?_
        refine b_iload_n hO dX6_doWhatIsDue_37 3 rfl rfl ?_
        refine b_iconst hO dX6_doWhatIsDue_38 ic_i_1 ?_
        refine b_iast hO kLX_13 (n := 6) rfl dX6_doWhatIsDue_39 ?_
        refine b_bnd (fun M39 => ?_)
        refine b_aload_n hO dX6_doWhatIsDue_40 0 rfl rfl ?_
        refine b_iload_n hO dX6_doWhatIsDue_41 3 rfl rfl ?_
        refine b_callVV hO mdX6_keep mvX6_keep w604 (ci := 6) rfl rfl (by decide) kLX_10 (As := [.int _]) (st := []) (ctX6_keep n0 hO.2.2.2.2.2.2.1 _ _) (Nat.le_of_ble_eq_true rfl) rfl rfl (Nat.le_of_ble_eq_true rfl) dX6_doWhatIsDue_42 (fun z42 => ?_)
        refine b_iinc hO dX6_doWhatIsDue_45 2 rfl ic_i_1 (by decide) (lv' := [(2, .int _), (0, .ref _), (1, .ref _), (3, .int _)]) rfl ?_
        refine b_sub [1, 2, 0, 3] rfl ?_
        exact tfX6_doWhatIsDue_48 n0 hO k4 hk4 _ _ _
theorem lX6_doWhatIsDue_4 (n0 : Nat) (hO : OKc p (rmL 6) s m args meth c LX D cy ad cX6_doWhatIsDue RX6 4 6 (some .int)) : ∀ (w : Nat) (x2 : Int32) (x3 : Int32) (M : Mem), BL p l e (rmL 6) s m args below meth c LX D cy ad 4 (QI LX D cy ad) 4 [(0, .ref (ad 10)), (1, .ref (ad 7)), (2, .int x2), (3, .int x3)] [] M (loopN (bX6_doWhatIsDue_4 n0) (fun _ _ _ => none) w x2 x3 M) := by
  intro w
  induction w with
  | zero =>
    intros
    exact b_none
  | succ w ih =>
    intro x2 x3 M
    exact tbX6_doWhatIsDue_4 n0 hO _ ih x2 x3 M
theorem tfX6_doWhatIsDue_4 (n0 : Nat) (hO : OKc p (rmL 6) s m args meth c LX D cy ad cX6_doWhatIsDue RX6 4 6 (some .int)) (x2 : Int32) (x3 : Int32) (M : Mem) : BL p l e (rmL 6) s m args below meth c LX D cy ad 4 (QI LX D cy ad) 4 [(0, .ref (ad 10)), (1, .ref (ad 7)), (2, .int x2), (3, .int x3)] [] M (fX6_doWhatIsDue_4 n0 x2 x3 M) := lX6_doWhatIsDue_4 n0 hO n0 x2 x3 M
theorem tfX6_doWhatIsDue (n0 : Nat) (hO : OKc p (rmL 6) s m args meth c LX D cy ad cX6_doWhatIsDue RX6 4 6 (some .int)) (M : Mem) : BL p l e (rmL 6) s m args below meth c LX D cy ad 4 (QI LX D cy ad) 0 [(0, .ref (ad 10)), (1, .ref (ad 7))] [] M (fX6_doWhatIsDue n0 M) := by
  unfold fX6_doWhatIsDue
  refine b_iconst hO dX6_doWhatIsDue_0 ic_i_0 ?_
  refine b_istore_n hO dX6_doWhatIsDue_1 rfl (by decide) (lv' := [(2, .int _), (0, .ref _), (1, .ref _)]) rfl ?_
  refine b_iconst hO dX6_doWhatIsDue_2 ic_i_0 ?_
  refine b_istore_n hO dX6_doWhatIsDue_3 rfl (by decide) (lv' := [(3, .int _), (2, .int _), (0, .ref _), (1, .ref _)]) rfl ?_
  refine b_sub [2, 3, 1, 0] rfl ?_
  exact tfX6_doWhatIsDue_4 n0 hO _ _ _
theorem ctX6_doWhatIsDue (n0 : Nat) (hI : Inj LX ad) (M : Mem) : CT l LX D cy ad yX6_doWhatIsDue cX6_doWhatIsDue 4 (some .int) 6 (QI LX D cy ad) [.ref (ad 10), .ref (ad 7)] M (fX6_doWhatIsDue n0 M) :=
  CT.mk LXok hI (by decide) (Nat.le_of_ble_eq_true rfl) (fun hO => tfX6_doWhatIsDue n0 hO M)
/-! X6_save -/
def fX6_save (n0 : Nat) (q1 : Nat) (M : Mem) : Option (Mem) :=
  if (18 : Int32) ≤ (Int32.ofNat (LX.ln q1)) then
    if oob (0 : Int32) (LX.ln q1) then none else
    bnd (sA M q1 (Int32.toNatClampNeg (0 : Int32)) (gI M 1281)) fun M14 =>
    if oob (1 : Int32) (LX.ln q1) then none else
    bnd (sA M14 q1 (Int32.toNatClampNeg (1 : Int32)) (gI M14 1285)) fun M21 =>
    if (0 : Int32) < 0 ∨ (2 : Int32) < 0 ∨ (5 : Int32) < 0 ∨ 5 < Int32.toNatClampNeg (0 : Int32) + Int32.toNatClampNeg (5 : Int32) ∨ (LX.ln q1) < Int32.toNatClampNeg (2 : Int32) + Int32.toNatClampNeg (5 : Int32) then none else
    bnd (sF M21 q1 (va_cpy (gA M21 11) (gA M21 q1) (Int32.toNatClampNeg (0 : Int32)) (Int32.toNatClampNeg (2 : Int32)) (Int32.toNatClampNeg (5 : Int32)))) fun M30 =>
    if (0 : Int32) < 0 ∨ (7 : Int32) < 0 ∨ (5 : Int32) < 0 ∨ 5 < Int32.toNatClampNeg (0 : Int32) + Int32.toNatClampNeg (5 : Int32) ∨ (LX.ln q1) < Int32.toNatClampNeg (7 : Int32) + Int32.toNatClampNeg (5 : Int32) then none else
    bnd (sF M30 q1 (va_cpy (gA M30 12) (gA M30 q1) (Int32.toNatClampNeg (0 : Int32)) (Int32.toNatClampNeg (7 : Int32)) (Int32.toNatClampNeg (5 : Int32)))) fun M42 =>
    if (0 : Int32) < 0 ∨ (12 : Int32) < 0 ∨ (6 : Int32) < 0 ∨ 6 < Int32.toNatClampNeg (0 : Int32) + Int32.toNatClampNeg (6 : Int32) ∨ (LX.ln q1) < Int32.toNatClampNeg (12 : Int32) + Int32.toNatClampNeg (6 : Int32) then none else
    some (sF M42 q1 (va_cpy (gA M42 13) (gA M42 q1) (Int32.toNatClampNeg (0 : Int32)) (Int32.toNatClampNeg (12 : Int32)) (Int32.toNatClampNeg (6 : Int32))))
  else
    some M
theorem tfX6_save (n0 : Nat) (q1 : Nat) (hq1 : isK LX q1 13) (hO : OKc p (rmL 1) s m args meth c LX D cy ad cX6_save RX6 2 1 none) (M : Mem) : BL p l e (rmL 1) s m args below meth c LX D cy ad 2 (QV LX D cy ad) 0 [(0, .ref (ad 10)), (1, .ref (ad q1))] [] M (fX6_save n0 q1 M) := by
  unfold fX6_save
  refine b_aload_n hO dX6_save_0 1 rfl rfl ?_
  refine b_alen hO hq1 rfl dX6_save_1 ?_
  refine b_bipush hO dX6_save_2 ic_b_18 ?_
  refine b_icmp_ge hO dX6_save_4 (tgt := 8) (by decide) ?_ ?_
  · refine b_aload_n hO dX6_save_8 1 rfl rfl ?_
    refine b_iconst hO dX6_save_9 ic_i_0 ?_
    refine b_aload_n hO dX6_save_10 0 rfl rfl ?_
    refine b_get hO flX6_9 kLX_10 (v := .int (gI _ 1281)) rfl dX6_save_11 ?_
    refine b_iast hO hq1 (n := (LX.ln q1)) rfl dX6_save_14 ?_
    refine b_bnd (fun M14 => ?_)
    refine b_aload_n hO dX6_save_15 1 rfl rfl ?_
    refine b_iconst hO dX6_save_16 ic_i_1 ?_
    refine b_aload_n hO dX6_save_17 0 rfl rfl ?_
    refine b_get hO flX6_25 kLX_10 (v := .int (gI _ 1285)) rfl dX6_save_18 ?_
    refine b_iast hO hq1 (n := (LX.ln q1)) rfl dX6_save_21 ?_
    refine b_bnd (fun M21 => ?_)
    refine b_aload_n hO dX6_save_22 0 rfl rfl ?_
    refine b_get hO flX6_15 kLX_10 (v := .ref (ad 11)) rfl dX6_save_23 ?_
    refine b_iconst hO dX6_save_26 ic_i_0 ?_
    refine b_aload_n hO dX6_save_27 1 rfl rfl ?_
    refine b_iconst hO dX6_save_28 ic_i_2 ?_
    refine b_iconst hO dX6_save_29 ic_i_5 ?_
    refine b_copy hO w1136 w1138 w1137 w138 kLX_11 hq1 (n0 := 5) (n1 := (LX.ln q1)) rfl rfl (by decide) (Nat.le_of_ble_eq_true rfl) dX6_save_30 ?_
    refine b_bnd (fun M30 => ?_)
    refine b_aload_n hO dX6_save_33 0 rfl rfl ?_
    refine b_get hO flX6_19 kLX_10 (v := .ref (ad 12)) rfl dX6_save_34 ?_
    refine b_iconst hO dX6_save_37 ic_i_0 ?_
    refine b_aload_n hO dX6_save_38 1 rfl rfl ?_
    refine b_bipush hO dX6_save_39 ic_b_7 ?_
    refine b_iconst hO dX6_save_41 ic_i_5 ?_
    refine b_copy hO w1136 w1138 w1137 w138 kLX_12 hq1 (n0 := 5) (n1 := (LX.ln q1)) rfl rfl (by decide) (Nat.le_of_ble_eq_true rfl) dX6_save_42 ?_
    refine b_bnd (fun M42 => ?_)
    refine b_aload_n hO dX6_save_45 0 rfl rfl ?_
    refine b_get hO flX6_22 kLX_10 (v := .ref (ad 13)) rfl dX6_save_46 ?_
    refine b_iconst hO dX6_save_49 ic_i_0 ?_
    refine b_aload_n hO dX6_save_50 1 rfl rfl ?_
    refine b_bipush hO dX6_save_51 ic_b_12 ?_
    refine b_bipush hO dX6_save_53 ic_b_6 ?_
    refine b_copy hO w1136 w1138 w1137 w138 kLX_13 hq1 (n0 := 6) (n1 := (LX.ln q1)) rfl rfl (by decide) (Nat.le_of_ble_eq_true rfl) dX6_save_55 ?_
    exact b_vret hO dX6_save_58
  · exact b_vret hO dX6_save_7
theorem ctX6_save (n0 : Nat) (q1 : Nat) (hq1 : isK LX q1 13) (hI : Inj LX ad) (M : Mem) : CT l LX D cy ad yX6_save cX6_save 2 none 1 (QV LX D cy ad) [.ref (ad 10), .ref (ad q1)] M (fX6_save n0 q1 M) :=
  CT.mk LXok hI (by decide) (Nat.le_of_ble_eq_true rfl) (fun hO => tfX6_save n0 q1 hq1 hO M)
/-! X6_bringBack -/
def fX6_bringBack (n0 : Nat) (q1 : Nat) (M : Mem) : Option (Mem) :=
  if (18 : Int32) ≤ (Int32.ofNat (LX.ln q1)) then
    if oob (0 : Int32) (LX.ln q1) then none else
    bnd (sI M 1281 (gA M q1 (Int32.toNatClampNeg (0 : Int32)))) fun M12 =>
    if oob (1 : Int32) (LX.ln q1) then none else
    bnd (sI M12 1285 (gA M12 q1 (Int32.toNatClampNeg (1 : Int32)))) fun M19 =>
    if (2 : Int32) < 0 ∨ (0 : Int32) < 0 ∨ (5 : Int32) < 0 ∨ (LX.ln q1) < Int32.toNatClampNeg (2 : Int32) + Int32.toNatClampNeg (5 : Int32) ∨ 5 < Int32.toNatClampNeg (0 : Int32) + Int32.toNatClampNeg (5 : Int32) then none else
    bnd (sF M19 11 (va_cpy (gA M19 q1) (gA M19 11) (Int32.toNatClampNeg (2 : Int32)) (Int32.toNatClampNeg (0 : Int32)) (Int32.toNatClampNeg (5 : Int32)))) fun M30 =>
    if (7 : Int32) < 0 ∨ (0 : Int32) < 0 ∨ (5 : Int32) < 0 ∨ (LX.ln q1) < Int32.toNatClampNeg (7 : Int32) + Int32.toNatClampNeg (5 : Int32) ∨ 5 < Int32.toNatClampNeg (0 : Int32) + Int32.toNatClampNeg (5 : Int32) then none else
    bnd (sF M30 12 (va_cpy (gA M30 q1) (gA M30 12) (Int32.toNatClampNeg (7 : Int32)) (Int32.toNatClampNeg (0 : Int32)) (Int32.toNatClampNeg (5 : Int32)))) fun M42 =>
    if (12 : Int32) < 0 ∨ (0 : Int32) < 0 ∨ (6 : Int32) < 0 ∨ (LX.ln q1) < Int32.toNatClampNeg (12 : Int32) + Int32.toNatClampNeg (6 : Int32) ∨ 6 < Int32.toNatClampNeg (0 : Int32) + Int32.toNatClampNeg (6 : Int32) then none else
    some (sF M42 13 (va_cpy (gA M42 q1) (gA M42 13) (Int32.toNatClampNeg (12 : Int32)) (Int32.toNatClampNeg (0 : Int32)) (Int32.toNatClampNeg (6 : Int32))))
  else
    some M
theorem tfX6_bringBack (n0 : Nat) (q1 : Nat) (hq1 : isK LX q1 13) (hO : OKc p (rmL 1) s m args meth c LX D cy ad cX6_bringBack RX6 2 1 none) (M : Mem) : BL p l e (rmL 1) s m args below meth c LX D cy ad 2 (QV LX D cy ad) 0 [(0, .ref (ad 10)), (1, .ref (ad q1))] [] M (fX6_bringBack n0 q1 M) := by
  unfold fX6_bringBack
  refine b_aload_n hO dX6_bringBack_0 1 rfl rfl ?_
  refine b_alen hO hq1 rfl dX6_bringBack_1 ?_
  refine b_bipush hO dX6_bringBack_2 ic_b_18 ?_
  refine b_icmp_ge hO dX6_bringBack_4 (tgt := 8) (by decide) ?_ ?_
  · refine b_aload_n hO dX6_bringBack_8 0 rfl rfl ?_
    refine b_aload_n hO dX6_bringBack_9 1 rfl rfl ?_
    refine b_iconst hO dX6_bringBack_10 ic_i_0 ?_
    refine b_iald hO hq1 (n := (LX.ln q1)) rfl dX6_bringBack_11 ?_
    refine b_putI hO flX6_9 kLX_10 rfl rfl rfl (id := 1281) rfl dX6_bringBack_12 ?_
    refine b_bnd (fun M12 => ?_)
    refine b_aload_n hO dX6_bringBack_15 0 rfl rfl ?_
    refine b_aload_n hO dX6_bringBack_16 1 rfl rfl ?_
    refine b_iconst hO dX6_bringBack_17 ic_i_1 ?_
    refine b_iald hO hq1 (n := (LX.ln q1)) rfl dX6_bringBack_18 ?_
    refine b_putI hO flX6_25 kLX_10 rfl rfl rfl (id := 1285) rfl dX6_bringBack_19 ?_
    refine b_bnd (fun M19 => ?_)
    refine b_aload_n hO dX6_bringBack_22 1 rfl rfl ?_
    refine b_iconst hO dX6_bringBack_23 ic_i_2 ?_
    refine b_aload_n hO dX6_bringBack_24 0 rfl rfl ?_
    refine b_get hO flX6_15 kLX_10 (v := .ref (ad 11)) rfl dX6_bringBack_25 ?_
    refine b_iconst hO dX6_bringBack_28 ic_i_0 ?_
    refine b_iconst hO dX6_bringBack_29 ic_i_5 ?_
    refine b_copy hO w1136 w1138 w1137 w138 hq1 kLX_11 (n0 := (LX.ln q1)) (n1 := 5) rfl rfl (by decide) (Nat.le_of_ble_eq_true rfl) dX6_bringBack_30 ?_
    refine b_bnd (fun M30 => ?_)
    refine b_aload_n hO dX6_bringBack_33 1 rfl rfl ?_
    refine b_bipush hO dX6_bringBack_34 ic_b_7 ?_
    refine b_aload_n hO dX6_bringBack_36 0 rfl rfl ?_
    refine b_get hO flX6_19 kLX_10 (v := .ref (ad 12)) rfl dX6_bringBack_37 ?_
    refine b_iconst hO dX6_bringBack_40 ic_i_0 ?_
    refine b_iconst hO dX6_bringBack_41 ic_i_5 ?_
    refine b_copy hO w1136 w1138 w1137 w138 hq1 kLX_12 (n0 := (LX.ln q1)) (n1 := 5) rfl rfl (by decide) (Nat.le_of_ble_eq_true rfl) dX6_bringBack_42 ?_
    refine b_bnd (fun M42 => ?_)
    refine b_aload_n hO dX6_bringBack_45 1 rfl rfl ?_
    refine b_bipush hO dX6_bringBack_46 ic_b_12 ?_
    refine b_aload_n hO dX6_bringBack_48 0 rfl rfl ?_
    refine b_get hO flX6_22 kLX_10 (v := .ref (ad 13)) rfl dX6_bringBack_49 ?_
    refine b_iconst hO dX6_bringBack_52 ic_i_0 ?_
    refine b_bipush hO dX6_bringBack_53 ic_b_6 ?_
    refine b_copy hO w1136 w1138 w1137 w138 hq1 kLX_13 (n0 := (LX.ln q1)) (n1 := 6) rfl rfl (by decide) (Nat.le_of_ble_eq_true rfl) dX6_bringBack_55 ?_
    exact b_vret hO dX6_bringBack_58
  · exact b_vret hO dX6_bringBack_7
theorem ctX6_bringBack (n0 : Nat) (q1 : Nat) (hq1 : isK LX q1 13) (hI : Inj LX ad) (M : Mem) : CT l LX D cy ad yX6_bringBack cX6_bringBack 2 none 1 (QV LX D cy ad) [.ref (ad 10), .ref (ad q1)] M (fX6_bringBack n0 q1 M) :=
  CT.mk LXok hI (by decide) (Nat.le_of_ble_eq_true rfl) (fun hO => tfX6_bringBack n0 q1 hq1 hO M)
/-! X6_imageSize -/
def fX6_imageSize (n0 : Nat) (M : Mem) : Option (Int32 × Mem) :=
  some (((((2 : Int32) + ((3 : Int32) * (gI M (128 * (gR M 1280) + 5)))) + (gI M (128 * (gR M 1280) + 12))) + (1 : Int32)), M)
theorem tfX6_imageSize (n0 : Nat) (hO : OKc p (rmL 1) s m args meth c LX D cy ad cX6_imageSize RX6 1 1 (some .int)) (M : Mem) : BL p l e (rmL 1) s m args below meth c LX D cy ad 1 (QI LX D cy ad) 0 [(0, .ref (ad 10))] [] M (fX6_imageSize n0 M) := by
  unfold fX6_imageSize
  refine b_iconst hO dX6_imageSize_0 ic_i_2 ?_
  refine b_iconst hO dX6_imageSize_1 ic_i_3 ?_
  refine b_aload_n hO dX6_imageSize_2 0 rfl rfl ?_
  refine b_getR hO flX6_34 kLX_10 (id := 1280) rfl rfl (rk := 9) rfl (by decide) dX6_imageSize_3 (fun hg1 => ?_)
  refine b_get hO flX6_38 hg1 (v := .int (gI _ (128 * (gR M 1280) + 5))) rfl dX6_imageSize_6 ?_
  refine b_imul hO dX6_imageSize_9 ?_
  refine b_iadd hO dX6_imageSize_10 ?_
  refine b_aload_n hO dX6_imageSize_11 0 rfl rfl ?_
  refine b_getR hO flX6_34 kLX_10 (id := 1280) rfl rfl (rk := 9) rfl (by decide) dX6_imageSize_12 (fun hg2 => ?_)
  refine b_get hO flX6_50 hg2 (v := .int (gI _ (128 * (gR M 1280) + 12))) rfl dX6_imageSize_15 ?_
  refine b_iadd hO dX6_imageSize_18 ?_
  refine b_iconst hO dX6_imageSize_19 ic_i_1 ?_
  refine b_iadd hO dX6_imageSize_20 ?_
  exact b_iret hO dX6_imageSize_21
theorem ctX6_imageSize (n0 : Nat) (hI : Inj LX ad) (M : Mem) : CT l LX D cy ad yX6_imageSize cX6_imageSize 1 (some .int) 1 (QI LX D cy ad) [.ref (ad 10)] M (fX6_imageSize n0 M) :=
  CT.mk LXok hI (by decide) (Nat.le_of_ble_eq_true rfl) (fun hO => tfX6_imageSize n0 hO M)
/-! X6_checkOf -/
def bX6_checkOf_6 (n0 : Nat) (q0 : Nat) (k6 : Int32 → Int32 → Int32 → Mem → Option (Int32 × Mem)) (x1 : Int32) (x2 : Int32) (x3 : Int32) (M : Mem) : Option (Int32 × Mem) :=
  if x1 ≤ x3 then
    some (x2, M)
  else
    if (Int32.ofNat (LX.ln q0)) ≤ x3 then
      some (x2, M)
    else
      if oob x3 (LX.ln q0) then none else
      if (251 : Int32) = 0 then none else
      bnd (rem32 (((5 : Int32) * x2) + (gA M q0 (Int32.toNatClampNeg x3))) (251 : Int32)) fun x2_28 =>
      k6 x1 x2_28 (x3 + (1 : Int32)) M
def fX6_checkOf_6 (n0 : Nat) (q0 : Nat) : Int32 → Int32 → Int32 → Mem → Option (Int32 × Mem) := loopN (bX6_checkOf_6 n0 q0) (fun _ _ _ _ => none) n0
def fX6_checkOf (n0 : Nat) (q0 : Nat) (x1 : Int32) (M : Mem) : Option (Int32 × Mem) :=
  fX6_checkOf_6 n0 q0 x1 (227 : Int32) (0 : Int32) M
theorem tbX6_checkOf_6 (n0 : Nat) (q0 : Nat) (hq0 : isK LX q0 13) (hO : OKc p (rmL 1) s m args meth c LX D cy ad cX6_checkOf RX6 4 1 (some .int)) (k6 : Int32 → Int32 → Int32 → Mem → Option (Int32 × Mem)) (hk6 : ∀ (x1 : Int32) (x2 : Int32) (x3 : Int32) (M : Mem), BL p l e (rmL 1) s m args below meth c LX D cy ad 4 (QI LX D cy ad) 6 [(0, .ref (ad q0)), (1, .int x1), (2, .int x2), (3, .int x3)] [] M (k6 x1 x2 x3 M)) (x1 : Int32) (x2 : Int32) (x3 : Int32) (M : Mem) : BL p l e (rmL 1) s m args below meth c LX D cy ad 4 (QI LX D cy ad) 6 [(0, .ref (ad q0)), (1, .int x1), (2, .int x2), (3, .int x3)] [] M (bX6_checkOf_6 n0 q0 k6 x1 x2 x3 M) := by
  unfold bX6_checkOf_6
  refine b_iload_n hO dX6_checkOf_6 3 rfl rfl ?_
  refine b_iload_n hO dX6_checkOf_7 1 rfl rfl ?_
  refine b_icmp_ge hO dX6_checkOf_8 (tgt := 35) (by decide) ?_ ?_
  · refine b_iload_n hO dX6_checkOf_35 2 rfl rfl ?_
    exact b_iret hO dX6_checkOf_36
  · refine b_iload_n hO dX6_checkOf_11 3 rfl rfl ?_
    refine b_aload_n hO dX6_checkOf_12 0 rfl rfl ?_
    refine b_alen hO hq0 rfl dX6_checkOf_13 ?_
    refine b_icmp_ge hO dX6_checkOf_14 (tgt := 35) (by decide) ?_ ?_
    · refine b_iload_n hO dX6_checkOf_35 2 rfl rfl ?_
      exact b_iret hO dX6_checkOf_36
    · refine b_iconst hO dX6_checkOf_17 ic_i_5 ?_
      refine b_iload_n hO dX6_checkOf_18 2 rfl rfl ?_
      refine b_imul hO dX6_checkOf_19 ?_
      refine b_aload_n hO dX6_checkOf_20 0 rfl rfl ?_
      refine b_iload_n hO dX6_checkOf_21 3 rfl rfl ?_
      refine b_iald hO hq0 (n := (LX.ln q0)) rfl dX6_checkOf_22 ?_
      refine b_iadd hO dX6_checkOf_23 ?_
      refine b_sipush hO dX6_checkOf_24 ic_s_251 ?_
      refine b_irem hO dX6_checkOf_27 ?_
      refine b_topI (fun x2_28 => ?_)
      refine b_istore_n hO dX6_checkOf_28 rfl (by decide) (lv' := [(2, .int _), (0, .ref _), (1, .int _), (3, .int _)]) rfl ?_
      refine b_iinc hO dX6_checkOf_29 3 rfl ic_i_1 (by decide) (lv' := [(3, .int _), (2, .int _), (0, .ref _), (1, .int _)]) rfl ?_
      refine b_goto hO dX6_checkOf_32 (tgt := 6) (by decide) ?_
      refine b_sub [2, 3, 1, 0] rfl ?_
      exact hk6 _ _ _ _
theorem lX6_checkOf_6 (n0 : Nat) (q0 : Nat) (hq0 : isK LX q0 13) (hO : OKc p (rmL 1) s m args meth c LX D cy ad cX6_checkOf RX6 4 1 (some .int)) : ∀ (w : Nat) (x1 : Int32) (x2 : Int32) (x3 : Int32) (M : Mem), BL p l e (rmL 1) s m args below meth c LX D cy ad 4 (QI LX D cy ad) 6 [(0, .ref (ad q0)), (1, .int x1), (2, .int x2), (3, .int x3)] [] M (loopN (bX6_checkOf_6 n0 q0) (fun _ _ _ _ => none) w x1 x2 x3 M) := by
  intro w
  induction w with
  | zero =>
    intros
    exact b_none
  | succ w ih =>
    intro x1 x2 x3 M
    exact tbX6_checkOf_6 n0 q0 hq0 hO _ ih x1 x2 x3 M
theorem tfX6_checkOf_6 (n0 : Nat) (q0 : Nat) (hq0 : isK LX q0 13) (hO : OKc p (rmL 1) s m args meth c LX D cy ad cX6_checkOf RX6 4 1 (some .int)) (x1 : Int32) (x2 : Int32) (x3 : Int32) (M : Mem) : BL p l e (rmL 1) s m args below meth c LX D cy ad 4 (QI LX D cy ad) 6 [(0, .ref (ad q0)), (1, .int x1), (2, .int x2), (3, .int x3)] [] M (fX6_checkOf_6 n0 q0 x1 x2 x3 M) := lX6_checkOf_6 n0 q0 hq0 hO n0 x1 x2 x3 M
theorem tfX6_checkOf (n0 : Nat) (q0 : Nat) (hq0 : isK LX q0 13) (hO : OKc p (rmL 1) s m args meth c LX D cy ad cX6_checkOf RX6 4 1 (some .int)) (x1 : Int32) (M : Mem) : BL p l e (rmL 1) s m args below meth c LX D cy ad 4 (QI LX D cy ad) 0 [(0, .ref (ad q0)), (1, .int x1)] [] M (fX6_checkOf n0 q0 x1 M) := by
  unfold fX6_checkOf
  refine b_sipush hO dX6_checkOf_0 ic_s_227 ?_
  refine b_istore_n hO dX6_checkOf_3 rfl (by decide) (lv' := [(2, .int _), (0, .ref _), (1, .int _)]) rfl ?_
  refine b_iconst hO dX6_checkOf_4 ic_i_0 ?_
  refine b_istore_n hO dX6_checkOf_5 rfl (by decide) (lv' := [(3, .int _), (2, .int _), (0, .ref _), (1, .int _)]) rfl ?_
  refine b_sub [2, 3, 1, 0] rfl ?_
  exact tfX6_checkOf_6 n0 q0 hq0 hO _ _ _ _
theorem ctX6_checkOf (n0 : Nat) (q0 : Nat) (hq0 : isK LX q0 13) (hI : Inj LX ad) (x1 : Int32) (M : Mem) : CT l LX D cy ad yX6_checkOf cX6_checkOf 4 (some .int) 1 (QI LX D cy ad) [.ref (ad q0), .int x1] M (fX6_checkOf n0 q0 x1 M) :=
  CT.mk LXok hI (by decide) (Nat.le_of_ble_eq_true rfl) (fun hO => tfX6_checkOf n0 q0 hq0 hO x1 M)
/-! X6_writeImage -/
def fX6_writeImage_79 (n0 : Nat) (q1 : Nat) (k36 : Int32 → Int32 → Mem → Option (Int32 × Mem)) (x2 : Int32) (x3 : Int32) (x4 : Int32) (u1 : Int32) (u2 : Int32) (M : Mem) : Option (Int32 × Mem) :=
  if oob u1 (LX.ln q1) then none else
  bnd (sA M q1 (Int32.toNatClampNeg u1) u2) fun M79 =>
  if oob x3 5 then none else
  if oob (x4 + (1 : Int32)) (LX.ln q1) then none else
  bnd (sA M79 q1 (Int32.toNatClampNeg (x4 + (1 : Int32))) ((gA M79 12 (Int32.toNatClampNeg x3)) >>> ((8 : Int32) &&& 31))) fun M94 =>
  if oob x3 5 then none else
  if oob (x4 + (2 : Int32)) (LX.ln q1) then none else
  bnd (sA M94 q1 (Int32.toNatClampNeg (x4 + (2 : Int32))) ((gA M94 12 (Int32.toNatClampNeg x3)) &&& (255 : Int32))) fun M110 =>
  k36 x2 (x3 + (1 : Int32)) M110
def bX6_writeImage_119 (n0 : Nat) (q1 : Nat) (k119 : Int32 → Int32 → Mem → Option (Int32 × Mem)) (x2 : Int32) (x3 : Int32) (M : Mem) : Option (Int32 × Mem) :=
  if (gI M (128 * (gR M 1280) + 12)) ≤ x3 then
    (fX6_checkOf n0 q1 (x2 - (1 : Int32)) M).bind fun z165 =>
    if oob (x2 - (1 : Int32)) (LX.ln q1) then none else
    bnd (sA z165.2 q1 (Int32.toNatClampNeg (x2 - (1 : Int32))) z165.1) fun M168 =>
    some (x2, M168)
  else
    if oob x3 6 then none else
    if oob (((2 : Int32) + ((3 : Int32) * (gI M (128 * (gR M 1280) + 5)))) + x3) (LX.ln q1) then none else
    bnd (sA M q1 (Int32.toNatClampNeg (((2 : Int32) + ((3 : Int32) * (gI M (128 * (gR M 1280) + 5)))) + x3)) (gA M 13 (Int32.toNatClampNeg x3))) fun M150 =>
    k119 x2 (x3 + (1 : Int32)) M150
def fX6_writeImage_119 (n0 : Nat) (q1 : Nat) : Int32 → Int32 → Mem → Option (Int32 × Mem) := loopN (bX6_writeImage_119 n0 q1) (fun _ _ _ => none) n0
def bX6_writeImage_36 (n0 : Nat) (q1 : Nat) (k36 : Int32 → Int32 → Mem → Option (Int32 × Mem)) (x2 : Int32) (x3 : Int32) (M : Mem) : Option (Int32 × Mem) :=
  if (gI M (128 * (gR M 1280) + 5)) ≤ x3 then
    fX6_writeImage_119 n0 q1 x2 (0 : Int32) M
  else
    bnd ((2 : Int32) + ((3 : Int32) * x3)) fun x4_52 =>
    if oob x3 5 then none else
    if (gA M 11 (Int32.toNatClampNeg x3)) = (-1 : Int32) then
      fX6_writeImage_79 n0 q1 k36 x2 x3 x4_52 x4_52 (255 : Int32) M
    else
      if oob x3 5 then none else
      fX6_writeImage_79 n0 q1 k36 x2 x3 x4_52 x4_52 (gA M 11 (Int32.toNatClampNeg x3)) M
def fX6_writeImage_36 (n0 : Nat) (q1 : Nat) : Int32 → Int32 → Mem → Option (Int32 × Mem) := loopN (bX6_writeImage_36 n0 q1) (fun _ _ _ => none) n0
def fX6_writeImage (n0 : Nat) (q1 : Nat) (M : Mem) : Option (Int32 × Mem) :=
  (fX6_imageSize n0 M).bind fun z1 =>
  if z1.1 ≤ (Int32.ofNat (LX.ln q1)) then
    if oob (0 : Int32) (LX.ln q1) then none else
    bnd (sA z1.2 q1 (Int32.toNatClampNeg (0 : Int32)) ((gI z1.2 1281) >>> ((8 : Int32) &&& 31))) fun M22 =>
    if oob (1 : Int32) (LX.ln q1) then none else
    bnd (sA M22 q1 (Int32.toNatClampNeg (1 : Int32)) ((gI M22 1281) &&& (255 : Int32))) fun M33 =>
    fX6_writeImage_36 n0 q1 z1.1 (0 : Int32) M33
  else
    some ((0 : Int32), z1.2)
theorem tfX6_writeImage_79 (n0 : Nat) (q1 : Nat) (hq1 : isK LX q1 13) (hO : OKc p (rmL 2) s m args meth c LX D cy ad cX6_writeImage RX6 5 2 (some .int)) (k36 : Int32 → Int32 → Mem → Option (Int32 × Mem)) (hk36 : ∀ (x2 : Int32) (x3 : Int32) (M : Mem), BL p l e (rmL 2) s m args below meth c LX D cy ad 5 (QI LX D cy ad) 36 [(0, .ref (ad 10)), (1, .ref (ad q1)), (2, .int x2), (3, .int x3)] [] M (k36 x2 x3 M)) (x2 : Int32) (x3 : Int32) (x4 : Int32) (u1 : Int32) (u2 : Int32) (M : Mem) : BL p l e (rmL 2) s m args below meth c LX D cy ad 5 (QI LX D cy ad) 79 [(0, .ref (ad 10)), (1, .ref (ad q1)), (2, .int x2), (3, .int x3), (4, .int x4)] [.int u2, .int u1, .ref (ad q1)] M (fX6_writeImage_79 n0 q1 k36 x2 x3 x4 u1 u2 M) := by
  unfold fX6_writeImage_79
  refine b_iast hO hq1 (n := (LX.ln q1)) rfl dX6_writeImage_79 ?_
  refine b_bnd (fun M79 => ?_)
  refine b_aload_n hO dX6_writeImage_80 1 rfl rfl ?_
  refine b_iload hO dX6_writeImage_81 4 rfl ?_
  refine b_iconst hO dX6_writeImage_83 ic_i_1 ?_
  refine b_iadd hO dX6_writeImage_84 ?_
  refine b_aload_n hO dX6_writeImage_85 0 rfl rfl ?_
  refine b_get hO flX6_19 kLX_10 (v := .ref (ad 12)) rfl dX6_writeImage_86 ?_
  refine b_iload_n hO dX6_writeImage_89 3 rfl rfl ?_
  refine b_iald hO kLX_12 (n := 5) rfl dX6_writeImage_90 ?_
  refine b_bipush hO dX6_writeImage_91 ic_b_8 ?_
  refine b_ishr hO dX6_writeImage_93 ?_
  refine b_iast hO hq1 (n := (LX.ln q1)) rfl dX6_writeImage_94 ?_
  refine b_bnd (fun M94 => ?_)
  refine b_aload_n hO dX6_writeImage_95 1 rfl rfl ?_
  refine b_iload hO dX6_writeImage_96 4 rfl ?_
  refine b_iconst hO dX6_writeImage_98 ic_i_2 ?_
  refine b_iadd hO dX6_writeImage_99 ?_
  refine b_aload_n hO dX6_writeImage_100 0 rfl rfl ?_
  refine b_get hO flX6_19 kLX_10 (v := .ref (ad 12)) rfl dX6_writeImage_101 ?_
  refine b_iload_n hO dX6_writeImage_104 3 rfl rfl ?_
  refine b_iald hO kLX_12 (n := 5) rfl dX6_writeImage_105 ?_
  refine b_sipush hO dX6_writeImage_106 ic_s_255 ?_
  refine b_iand hO dX6_writeImage_109 ?_
  refine b_iast hO hq1 (n := (LX.ln q1)) rfl dX6_writeImage_110 ?_
  refine b_bnd (fun M110 => ?_)
  refine b_iinc hO dX6_writeImage_111 3 rfl ic_i_1 (by decide) (lv' := [(3, .int _), (0, .ref _), (1, .ref _), (2, .int _), (4, .int _)]) rfl ?_
  refine b_goto hO dX6_writeImage_114 (tgt := 36) (by decide) ?_
  refine b_sub [1, 2, 3, 0] rfl ?_
  exact hk36 _ _ _
theorem tbX6_writeImage_119 (n0 : Nat) (q1 : Nat) (hq1 : isK LX q1 13) (hO : OKc p (rmL 2) s m args meth c LX D cy ad cX6_writeImage RX6 5 2 (some .int)) (k119 : Int32 → Int32 → Mem → Option (Int32 × Mem)) (hk119 : ∀ (x2 : Int32) (x3 : Int32) (M : Mem), BL p l e (rmL 2) s m args below meth c LX D cy ad 5 (QI LX D cy ad) 119 [(0, .ref (ad 10)), (1, .ref (ad q1)), (2, .int x2), (3, .int x3)] [] M (k119 x2 x3 M)) (x2 : Int32) (x3 : Int32) (M : Mem) : BL p l e (rmL 2) s m args below meth c LX D cy ad 5 (QI LX D cy ad) 119 [(0, .ref (ad 10)), (1, .ref (ad q1)), (2, .int x2), (3, .int x3)] [] M (bX6_writeImage_119 n0 q1 k119 x2 x3 M) := by
  unfold bX6_writeImage_119
  refine b_iload_n hO dX6_writeImage_119 3 rfl rfl ?_
  refine b_aload_n hO dX6_writeImage_120 0 rfl rfl ?_
  refine b_getR hO flX6_34 kLX_10 (id := 1280) rfl rfl (rk := 9) rfl (by decide) dX6_writeImage_121 (fun hg1 => ?_)
  refine b_get hO flX6_50 hg1 (v := .int (gI _ (128 * (gR M 1280) + 12))) rfl dX6_writeImage_124 ?_
  refine b_icmp_ge hO dX6_writeImage_127 (tgt := 157) (by decide) ?_ ?_
  · refine b_aload_n hO dX6_writeImage_157 1 rfl rfl ?_
    refine b_iload_n hO dX6_writeImage_158 2 rfl rfl ?_
    refine b_iconst hO dX6_writeImage_159 ic_i_1 ?_
    refine b_isub hO dX6_writeImage_160 ?_
    refine b_aload_n hO dX6_writeImage_161 1 rfl rfl ?_
    refine b_iload_n hO dX6_writeImage_162 2 rfl rfl ?_
    refine b_iconst hO dX6_writeImage_163 ic_i_1 ?_
    refine b_isub hO dX6_writeImage_164 ?_
    refine b_callSI hO mdX6_checkOf w1207 w1206 (As := [.ref _, .int _]) (st := [.int _, .ref _]) (ctX6_checkOf n0 _ hq1 hO.2.2.2.2.2.2.1 _ _) (Nat.le_of_ble_eq_true rfl) rfl rfl (Nat.le_of_ble_eq_true rfl) dX6_writeImage_165 (fun z165 => ?_)
    refine b_iast hO hq1 (n := (LX.ln q1)) rfl dX6_writeImage_168 ?_
    refine b_bnd (fun M168 => ?_)
    refine b_iload_n hO dX6_writeImage_169 2 rfl rfl ?_
    exact b_iret hO dX6_writeImage_170
  · refine b_aload_n hO dX6_writeImage_130 1 rfl rfl ?_
    refine b_iconst hO dX6_writeImage_131 ic_i_2 ?_
    refine b_iconst hO dX6_writeImage_132 ic_i_3 ?_
    refine b_aload_n hO dX6_writeImage_133 0 rfl rfl ?_
    refine b_getR hO flX6_34 kLX_10 (id := 1280) rfl rfl (rk := 9) rfl (by decide) dX6_writeImage_134 (fun hg2 => ?_)
    refine b_get hO flX6_38 hg2 (v := .int (gI _ (128 * (gR M 1280) + 5))) rfl dX6_writeImage_137 ?_
    refine b_imul hO dX6_writeImage_140 ?_
    refine b_iadd hO dX6_writeImage_141 ?_
    refine b_iload_n hO dX6_writeImage_142 3 rfl rfl ?_
    refine b_iadd hO dX6_writeImage_143 ?_
    refine b_aload_n hO dX6_writeImage_144 0 rfl rfl ?_
    refine b_get hO flX6_22 kLX_10 (v := .ref (ad 13)) rfl dX6_writeImage_145 ?_
    refine b_iload_n hO dX6_writeImage_148 3 rfl rfl ?_
    refine b_iald hO kLX_13 (n := 6) rfl dX6_writeImage_149 ?_
    refine b_iast hO hq1 (n := (LX.ln q1)) rfl dX6_writeImage_150 ?_
    refine b_bnd (fun M150 => ?_)
    refine b_iinc hO dX6_writeImage_151 3 rfl ic_i_1 (by decide) (lv' := [(3, .int _), (0, .ref _), (1, .ref _), (2, .int _)]) rfl ?_
    refine b_goto hO dX6_writeImage_154 (tgt := 119) (by decide) ?_
    refine b_sub [1, 2, 3, 0] rfl ?_
    exact hk119 _ _ _
theorem lX6_writeImage_119 (n0 : Nat) (q1 : Nat) (hq1 : isK LX q1 13) (hO : OKc p (rmL 2) s m args meth c LX D cy ad cX6_writeImage RX6 5 2 (some .int)) : ∀ (w : Nat) (x2 : Int32) (x3 : Int32) (M : Mem), BL p l e (rmL 2) s m args below meth c LX D cy ad 5 (QI LX D cy ad) 119 [(0, .ref (ad 10)), (1, .ref (ad q1)), (2, .int x2), (3, .int x3)] [] M (loopN (bX6_writeImage_119 n0 q1) (fun _ _ _ => none) w x2 x3 M) := by
  intro w
  induction w with
  | zero =>
    intros
    exact b_none
  | succ w ih =>
    intro x2 x3 M
    exact tbX6_writeImage_119 n0 q1 hq1 hO _ ih x2 x3 M
theorem tfX6_writeImage_119 (n0 : Nat) (q1 : Nat) (hq1 : isK LX q1 13) (hO : OKc p (rmL 2) s m args meth c LX D cy ad cX6_writeImage RX6 5 2 (some .int)) (x2 : Int32) (x3 : Int32) (M : Mem) : BL p l e (rmL 2) s m args below meth c LX D cy ad 5 (QI LX D cy ad) 119 [(0, .ref (ad 10)), (1, .ref (ad q1)), (2, .int x2), (3, .int x3)] [] M (fX6_writeImage_119 n0 q1 x2 x3 M) := lX6_writeImage_119 n0 q1 hq1 hO n0 x2 x3 M
theorem tbX6_writeImage_36 (n0 : Nat) (q1 : Nat) (hq1 : isK LX q1 13) (hO : OKc p (rmL 2) s m args meth c LX D cy ad cX6_writeImage RX6 5 2 (some .int)) (k36 : Int32 → Int32 → Mem → Option (Int32 × Mem)) (hk36 : ∀ (x2 : Int32) (x3 : Int32) (M : Mem), BL p l e (rmL 2) s m args below meth c LX D cy ad 5 (QI LX D cy ad) 36 [(0, .ref (ad 10)), (1, .ref (ad q1)), (2, .int x2), (3, .int x3)] [] M (k36 x2 x3 M)) (x2 : Int32) (x3 : Int32) (M : Mem) : BL p l e (rmL 2) s m args below meth c LX D cy ad 5 (QI LX D cy ad) 36 [(0, .ref (ad 10)), (1, .ref (ad q1)), (2, .int x2), (3, .int x3)] [] M (bX6_writeImage_36 n0 q1 k36 x2 x3 M) := by
  unfold bX6_writeImage_36
  refine b_iload_n hO dX6_writeImage_36 3 rfl rfl ?_
  refine b_aload_n hO dX6_writeImage_37 0 rfl rfl ?_
  refine b_getR hO flX6_34 kLX_10 (id := 1280) rfl rfl (rk := 9) rfl (by decide) dX6_writeImage_38 (fun hg1 => ?_)
  refine b_get hO flX6_38 hg1 (v := .int (gI _ (128 * (gR M 1280) + 5))) rfl dX6_writeImage_41 ?_
  refine b_icmp_ge hO dX6_writeImage_44 (tgt := 117) (by decide) ?_ ?_
  · refine b_iconst hO dX6_writeImage_117 ic_i_0 ?_
    refine b_istore_n hO dX6_writeImage_118 rfl (by decide) (lv' := [(3, .int _), (0, .ref _), (1, .ref _), (2, .int _)]) rfl ?_
    refine b_sub [1, 2, 3, 0] rfl ?_
    exact tfX6_writeImage_119 n0 q1 hq1 hO _ _ _
  · refine b_iconst hO dX6_writeImage_47 ic_i_2 ?_
    refine b_iconst hO dX6_writeImage_48 ic_i_3 ?_
    refine b_iload_n hO dX6_writeImage_49 3 rfl rfl ?_
    refine b_imul hO dX6_writeImage_50 ?_
    refine b_iadd hO dX6_writeImage_51 ?_
    refine b_topI (fun x4_52 => ?_)
    refine b_istore hO dX6_writeImage_52 (by decide) (lv' := [(4, .int _), (0, .ref _), (1, .ref _), (2, .int _), (3, .int _)]) rfl ?_
    refine b_aload_n hO dX6_writeImage_54 2 rfl rfl ?_
    refine b_iload hO dX6_writeImage_55 0 rfl ?_
    refine b_aload_n hO dX6_writeImage_57 1 rfl rfl ?_
    refine b_get hO flX6_15 kLX_10 (v := .ref (ad 11)) rfl dX6_writeImage_58 ?_
    refine b_iload_n hO dX6_writeImage_61 4 rfl rfl ?_
    refine b_iald hO kLX_11 (n := 5) rfl dX6_writeImage_62 ?_
    refine b_iconst hO dX6_writeImage_63 ic_i_m1 ?_
    refine b_icmp_ne hO dX6_writeImage_64 (tgt := 73) (by decide) ?_ ?_
    · refine b_aload_n hO dX6_writeImage_73 1 rfl rfl ?_
      refine b_get hO flX6_15 kLX_10 (v := .ref (ad 11)) rfl dX6_writeImage_74 ?_
      refine b_iload_n hO dX6_writeImage_77 4 rfl rfl ?_
      refine b_iald hO kLX_11 (n := 5) rfl dX6_writeImage_78 ?_
      refine b_sub [1, 2, 3, 4, 0] rfl ?_
      exact tfX6_writeImage_79 n0 q1 hq1 hO k36 hk36 _ _ _ _ _ _
    · refine b_sipush hO dX6_writeImage_67 ic_s_255 ?_
      refine b_goto hO dX6_writeImage_70 (tgt := 79) (by decide) ?_
      refine b_sub [1, 2, 3, 4, 0] rfl ?_
      exact tfX6_writeImage_79 n0 q1 hq1 hO k36 hk36 _ _ _ _ _ _
theorem lX6_writeImage_36 (n0 : Nat) (q1 : Nat) (hq1 : isK LX q1 13) (hO : OKc p (rmL 2) s m args meth c LX D cy ad cX6_writeImage RX6 5 2 (some .int)) : ∀ (w : Nat) (x2 : Int32) (x3 : Int32) (M : Mem), BL p l e (rmL 2) s m args below meth c LX D cy ad 5 (QI LX D cy ad) 36 [(0, .ref (ad 10)), (1, .ref (ad q1)), (2, .int x2), (3, .int x3)] [] M (loopN (bX6_writeImage_36 n0 q1) (fun _ _ _ => none) w x2 x3 M) := by
  intro w
  induction w with
  | zero =>
    intros
    exact b_none
  | succ w ih =>
    intro x2 x3 M
    exact tbX6_writeImage_36 n0 q1 hq1 hO _ ih x2 x3 M
theorem tfX6_writeImage_36 (n0 : Nat) (q1 : Nat) (hq1 : isK LX q1 13) (hO : OKc p (rmL 2) s m args meth c LX D cy ad cX6_writeImage RX6 5 2 (some .int)) (x2 : Int32) (x3 : Int32) (M : Mem) : BL p l e (rmL 2) s m args below meth c LX D cy ad 5 (QI LX D cy ad) 36 [(0, .ref (ad 10)), (1, .ref (ad q1)), (2, .int x2), (3, .int x3)] [] M (fX6_writeImage_36 n0 q1 x2 x3 M) := lX6_writeImage_36 n0 q1 hq1 hO n0 x2 x3 M
theorem tfX6_writeImage (n0 : Nat) (q1 : Nat) (hq1 : isK LX q1 13) (hO : OKc p (rmL 2) s m args meth c LX D cy ad cX6_writeImage RX6 5 2 (some .int)) (M : Mem) : BL p l e (rmL 2) s m args below meth c LX D cy ad 5 (QI LX D cy ad) 0 [(0, .ref (ad 10)), (1, .ref (ad q1))] [] M (fX6_writeImage n0 q1 M) := by
  unfold fX6_writeImage
  refine b_aload_n hO dX6_writeImage_0 0 rfl rfl ?_
  refine b_callVI hO mdX6_imageSize mvX6_imageSize w1202 (ci := 6) rfl rfl (by decide) kLX_10 (As := []) (st := []) (ctX6_imageSize n0 hO.2.2.2.2.2.2.1 _) (Nat.le_of_ble_eq_true rfl) rfl rfl (Nat.le_of_ble_eq_true rfl) dX6_writeImage_1 (fun z1 => ?_)
  refine b_istore_n hO dX6_writeImage_4 rfl (by decide) (lv' := [(2, .int _), (0, .ref _), (1, .ref _)]) rfl ?_
  refine b_aload_n hO dX6_writeImage_5 2 rfl rfl ?_
  refine b_alen hO hq1 rfl dX6_writeImage_6 ?_
  refine b_iload_n hO dX6_writeImage_7 0 rfl rfl ?_
  refine b_icmp_ge hO dX6_writeImage_8 (tgt := 13) (by decide) ?_ ?_
  · refine b_aload_n hO dX6_writeImage_13 2 rfl rfl ?_
    refine b_iconst hO dX6_writeImage_14 ic_i_0 ?_
    refine b_aload_n hO dX6_writeImage_15 1 rfl rfl ?_
    refine b_get hO flX6_9 kLX_10 (v := .int (gI _ 1281)) rfl dX6_writeImage_16 ?_
    refine b_bipush hO dX6_writeImage_19 ic_b_8 ?_
    refine b_ishr hO dX6_writeImage_21 ?_
    refine b_iast hO hq1 (n := (LX.ln q1)) rfl dX6_writeImage_22 ?_
    refine b_bnd (fun M22 => ?_)
    refine b_aload_n hO dX6_writeImage_23 2 rfl rfl ?_
    refine b_iconst hO dX6_writeImage_24 ic_i_1 ?_
    refine b_aload_n hO dX6_writeImage_25 1 rfl rfl ?_
    refine b_get hO flX6_9 kLX_10 (v := .int (gI _ 1281)) rfl dX6_writeImage_26 ?_
    refine b_sipush hO dX6_writeImage_29 ic_s_255 ?_
    refine b_iand hO dX6_writeImage_32 ?_
    refine b_iast hO hq1 (n := (LX.ln q1)) rfl dX6_writeImage_33 ?_
    refine b_bnd (fun M33 => ?_)
    refine b_iconst hO dX6_writeImage_34 ic_i_0 ?_
    refine b_istore_n hO dX6_writeImage_35 rfl (by decide) (lv' := [(3, .int _), (2, .int _), (0, .ref _), (1, .ref _)]) rfl ?_
    refine b_sub [2, 3, 1, 0] rfl ?_
    exact tfX6_writeImage_36 n0 q1 hq1 hO _ _ _
  · refine b_iconst hO dX6_writeImage_11 ic_i_0 ?_
    exact b_iret hO dX6_writeImage_12
theorem ctX6_writeImage (n0 : Nat) (q1 : Nat) (hq1 : isK LX q1 13) (hI : Inj LX ad) (M : Mem) : CT l LX D cy ad yX6_writeImage cX6_writeImage 5 (some .int) 2 (QI LX D cy ad) [.ref (ad 10), .ref (ad q1)] M (fX6_writeImage n0 q1 M) :=
  CT.mk LXok hI (by decide) (Nat.le_of_ble_eq_true rfl) (fun hO => tfX6_writeImage n0 q1 hq1 hO M)
/-! X6_isImage -/
def fX6_isImage_75 (n0 : Nat) (k28 : Int32 → Int32 → Mem → Option (Int32 × Mem)) (x2 : Int32) (x3 : Int32) (u0 : Int32) (M : Mem) : Option (Int32 × Mem) :=
  if u0 = 0 then
    some ((0 : Int32), M)
  else
    (fX7_pairAt n0 ((3 : Int32) + ((3 : Int32) * x3)) M).bind fun z88 =>
    if z88.1 ≤ (999 : Int32) then
      k28 x2 (x3 + (1 : Int32)) z88.2
    else
      some ((0 : Int32), z88.2)
def fX6_isImage_70 (n0 : Nat) (k28 : Int32 → Int32 → Mem → Option (Int32 × Mem)) (x2 : Int32) (x3 : Int32) (M : Mem) : Option (Int32 × Mem) :=
  fX6_isImage_75 n0 k28 x2 x3 (1 : Int32) M
def bX6_isImage_107 (n0 : Nat) (k107 : Int32 → Int32 → Mem → Option (Int32 × Mem)) (x2 : Int32) (x3 : Int32) (M : Mem) : Option (Int32 × Mem) :=
  if (gI M (128 * (gR M 1280) + 12)) ≤ x3 then
    (fX7_at n0 (x2 - (1 : Int32)) M).bind fun z151 =>
    (fX6_checkOf n0 6 (x2 - (1 : Int32)) z151.2).bind fun z161 =>
    if z151.1 = z161.1 then
      some ((1 : Int32), z161.2)
    else
      some ((0 : Int32), z161.2)
  else
    (fX7_at n0 (((2 : Int32) + ((3 : Int32) * (gI M (128 * (gR M 1280) + 5)))) + x3) M).bind fun z132 =>
    if z132.1 ≤ (1 : Int32) then
      k107 x2 (x3 + (1 : Int32)) z132.2
    else
      some ((0 : Int32), z132.2)
def fX6_isImage_107 (n0 : Nat) : Int32 → Int32 → Mem → Option (Int32 × Mem) := loopN (bX6_isImage_107 n0) (fun _ _ _ => none) n0
def bX6_isImage_28 (n0 : Nat) (k28 : Int32 → Int32 → Mem → Option (Int32 × Mem)) (x2 : Int32) (x3 : Int32) (M : Mem) : Option (Int32 × Mem) :=
  if (gI M (128 * (gR M 1280) + 5)) ≤ x3 then
    fX6_isImage_107 n0 x2 (0 : Int32) M
  else
    (fX7_at n0 ((2 : Int32) + ((3 : Int32) * x3)) M).bind fun z45 =>
    if z45.1 = (255 : Int32) then
      fX6_isImage_70 n0 k28 x2 x3 z45.2
    else
      (fX9_isThing n0 (gR z45.2 1280) z45.1 z45.2).bind fun z64 =>
      if z64.1 = 0 then
        fX6_isImage_75 n0 k28 x2 x3 (0 : Int32) z64.2
      else
        fX6_isImage_70 n0 k28 x2 x3 z64.2
def fX6_isImage_28 (n0 : Nat) : Int32 → Int32 → Mem → Option (Int32 × Mem) := loopN (bX6_isImage_28 n0) (fun _ _ _ => none) n0
def fX6_isImage (n0 : Nat) (M : Mem) : Option (Int32 × Mem) :=
  (fX6_imageSize n0 M).bind fun z1 =>
  if (gI z1.2 641) = z1.1 then
    (fX7_pairAt n0 (0 : Int32) z1.2).bind fun z15 =>
    if z15.1 ≤ (9999 : Int32) then
      fX6_isImage_28 n0 z1.1 (0 : Int32) z15.2
    else
      some ((0 : Int32), z15.2)
  else
    some ((0 : Int32), z1.2)
theorem tfX6_isImage_75 (n0 : Nat) (hO : OKc p (rmL 3) s m args meth c LX D cy ad cX6_isImage RX6 6 3 (some .boolean)) (k28 : Int32 → Int32 → Mem → Option (Int32 × Mem)) (hk28 : ∀ (x2 : Int32) (x3 : Int32) (M : Mem), BL p l e (rmL 3) s m args below meth c LX D cy ad 6 (QI LX D cy ad) 28 [(0, .ref (ad 10)), (1, .ref (ad 5)), (2, .int x2), (3, .int x3)] [] M (k28 x2 x3 M)) (x2 : Int32) (x3 : Int32) (u0 : Int32) (M : Mem) : BL p l e (rmL 3) s m args below meth c LX D cy ad 6 (QI LX D cy ad) 75 [(0, .ref (ad 10)), (1, .ref (ad 5)), (2, .int x2), (3, .int x3)] [.int u0] M (fX6_isImage_75 n0 k28 x2 x3 u0 M) := by
  unfold fX6_isImage_75
  refine b_istore hO dX6_isImage_75 (by decide) (lv' := [(5, .int _), (0, .ref _), (1, .ref _), (2, .int _), (3, .int _)]) rfl ?_
  refine b_iload hO dX6_isImage_77 0 rfl ?_
  refine b_if_eq hO dX6_isImage_79 (tgt := 97) (by decide) ?_ ?_
  · refine b_iconst hO dX6_isImage_97 ic_i_0 ?_
    exact b_zretc hO (Or.inl rfl) dX6_isImage_98
  · refine b_aload_n hO dX6_isImage_82 2 rfl rfl ?_
    refine b_iconst hO dX6_isImage_83 ic_i_3 ?_
    refine b_iconst hO dX6_isImage_84 ic_i_3 ?_
    refine b_iload_n hO dX6_isImage_85 4 rfl rfl ?_
    refine b_imul hO dX6_isImage_86 ?_
    refine b_iadd hO dX6_isImage_87 ?_
    refine b_callVI hO mdX7_pairAt mvX7_pairAt w1221 (ci := 7) rfl rfl (by decide) kLX_5 (As := [.int _]) (st := []) (ctX7_pairAt n0 hO.2.2.2.2.2.2.1 _ _) (Nat.le_of_ble_eq_true rfl) rfl rfl (Nat.le_of_ble_eq_true rfl) dX6_isImage_88 (fun z88 => ?_)
    refine b_sipush hO dX6_isImage_91 ic_s_999 ?_
    refine b_icmp_le hO dX6_isImage_94 (tgt := 99) (by decide) ?_ ?_
    · refine b_iinc hO dX6_isImage_99 4 rfl ic_i_1 (by decide) (lv' := [(3, .int _), (5, .int _), (0, .ref _), (1, .ref _), (2, .int _)]) rfl ?_
      refine b_goto hO dX6_isImage_102 (tgt := 28) (by decide) ?_
      refine b_sub [2, 3, 4, 0] rfl ?_
      exact hk28 _ _ _
    · refine b_iconst hO dX6_isImage_97 ic_i_0 ?_
      exact b_zretc hO (Or.inl rfl) dX6_isImage_98
theorem tfX6_isImage_70 (n0 : Nat) (hO : OKc p (rmL 3) s m args meth c LX D cy ad cX6_isImage RX6 6 3 (some .boolean)) (k28 : Int32 → Int32 → Mem → Option (Int32 × Mem)) (hk28 : ∀ (x2 : Int32) (x3 : Int32) (M : Mem), BL p l e (rmL 3) s m args below meth c LX D cy ad 6 (QI LX D cy ad) 28 [(0, .ref (ad 10)), (1, .ref (ad 5)), (2, .int x2), (3, .int x3)] [] M (k28 x2 x3 M)) (x2 : Int32) (x3 : Int32) (M : Mem) : BL p l e (rmL 3) s m args below meth c LX D cy ad 6 (QI LX D cy ad) 70 [(0, .ref (ad 10)), (1, .ref (ad 5)), (2, .int x2), (3, .int x3)] [] M (fX6_isImage_70 n0 k28 x2 x3 M) := by
  unfold fX6_isImage_70
  refine b_iconst hO dX6_isImage_70 ic_i_1 ?_
  refine b_goto hO dX6_isImage_71 (tgt := 75) (by decide) ?_
  exact tfX6_isImage_75 n0 hO k28 hk28 _ _ _ _
theorem tbX6_isImage_107 (n0 : Nat) (hO : OKc p (rmL 3) s m args meth c LX D cy ad cX6_isImage RX6 6 3 (some .boolean)) (k107 : Int32 → Int32 → Mem → Option (Int32 × Mem)) (hk107 : ∀ (x2 : Int32) (x3 : Int32) (M : Mem), BL p l e (rmL 3) s m args below meth c LX D cy ad 6 (QI LX D cy ad) 107 [(0, .ref (ad 10)), (1, .ref (ad 5)), (2, .int x2), (3, .int x3)] [] M (k107 x2 x3 M)) (x2 : Int32) (x3 : Int32) (M : Mem) : BL p l e (rmL 3) s m args below meth c LX D cy ad 6 (QI LX D cy ad) 107 [(0, .ref (ad 10)), (1, .ref (ad 5)), (2, .int x2), (3, .int x3)] [] M (bX6_isImage_107 n0 k107 x2 x3 M) := by
  unfold bX6_isImage_107
  refine b_iload_n hO dX6_isImage_107 3 rfl rfl ?_
  refine b_aload_n hO dX6_isImage_108 0 rfl rfl ?_
  refine b_getR hO flX6_34 kLX_10 (id := 1280) rfl rfl (rk := 9) rfl (by decide) dX6_isImage_109 (fun hg1 => ?_)
  refine b_get hO flX6_50 hg1 (v := .int (gI _ (128 * (gR M 1280) + 12))) rfl dX6_isImage_112 ?_
  refine b_icmp_ge hO dX6_isImage_115 (tgt := 147) (by decide) ?_ ?_
  · refine b_aload_n hO dX6_isImage_147 1 rfl rfl ?_
    refine b_iload_n hO dX6_isImage_148 2 rfl rfl ?_
    refine b_iconst hO dX6_isImage_149 ic_i_1 ?_
    refine b_isub hO dX6_isImage_150 ?_
    refine b_callVI hO mdX7_at mvX7_at w1226 (ci := 7) rfl rfl (by decide) kLX_5 (As := [.int _]) (st := []) (ctX7_at n0 hO.2.2.2.2.2.2.1 _ _) (Nat.le_of_ble_eq_true rfl) rfl rfl (Nat.le_of_ble_eq_true rfl) dX6_isImage_151 (fun z151 => ?_)
    refine b_aload_n hO dX6_isImage_154 1 rfl rfl ?_
    refine b_get hO flX6_120 kLX_5 (v := .ref (ad 6)) rfl dX6_isImage_155 ?_
    refine b_iload_n hO dX6_isImage_158 2 rfl rfl ?_
    refine b_iconst hO dX6_isImage_159 ic_i_1 ?_
    refine b_isub hO dX6_isImage_160 ?_
    refine b_callSI hO mdX6_checkOf w1207 w1206 (As := [.ref _, .int _]) (st := [.int _]) (ctX6_checkOf n0 _ kLX_6 hO.2.2.2.2.2.2.1 _ _) (Nat.le_of_ble_eq_true rfl) rfl rfl (Nat.le_of_ble_eq_true rfl) dX6_isImage_161 (fun z161 => ?_)
    refine b_icmp_ne hO dX6_isImage_164 (tgt := 171) (by decide) ?_ ?_
    · refine b_iconst hO dX6_isImage_171 ic_i_0 ?_
      exact b_zretc hO (Or.inl rfl) dX6_isImage_172
    · refine b_iconst hO dX6_isImage_167 ic_i_1 ?_
      refine b_goto hO dX6_isImage_168 (tgt := 172) (by decide) ?_
      exact b_zretc hO (Or.inr rfl) dX6_isImage_172
  · refine b_aload_n hO dX6_isImage_118 1 rfl rfl ?_
    refine b_iconst hO dX6_isImage_119 ic_i_2 ?_
    refine b_iconst hO dX6_isImage_120 ic_i_3 ?_
    refine b_aload_n hO dX6_isImage_121 0 rfl rfl ?_
    refine b_getR hO flX6_34 kLX_10 (id := 1280) rfl rfl (rk := 9) rfl (by decide) dX6_isImage_122 (fun hg2 => ?_)
    refine b_get hO flX6_38 hg2 (v := .int (gI _ (128 * (gR M 1280) + 5))) rfl dX6_isImage_125 ?_
    refine b_imul hO dX6_isImage_128 ?_
    refine b_iadd hO dX6_isImage_129 ?_
    refine b_iload_n hO dX6_isImage_130 3 rfl rfl ?_
    refine b_iadd hO dX6_isImage_131 ?_
    refine b_callVI hO mdX7_at mvX7_at w1226 (ci := 7) rfl rfl (by decide) kLX_5 (As := [.int _]) (st := []) (ctX7_at n0 hO.2.2.2.2.2.2.1 _ _) (Nat.le_of_ble_eq_true rfl) rfl rfl (Nat.le_of_ble_eq_true rfl) dX6_isImage_132 (fun z132 => ?_)
    refine b_iconst hO dX6_isImage_135 ic_i_1 ?_
    refine b_icmp_le hO dX6_isImage_136 (tgt := 141) (by decide) ?_ ?_
    · refine b_iinc hO dX6_isImage_141 3 rfl ic_i_1 (by decide) (lv' := [(3, .int _), (0, .ref _), (1, .ref _), (2, .int _)]) rfl ?_
      refine b_goto hO dX6_isImage_144 (tgt := 107) (by decide) ?_
      refine b_sub [1, 2, 3, 0] rfl ?_
      exact hk107 _ _ _
    · refine b_iconst hO dX6_isImage_139 ic_i_0 ?_
      exact b_zretc hO (Or.inl rfl) dX6_isImage_140
theorem lX6_isImage_107 (n0 : Nat) (hO : OKc p (rmL 3) s m args meth c LX D cy ad cX6_isImage RX6 6 3 (some .boolean)) : ∀ (w : Nat) (x2 : Int32) (x3 : Int32) (M : Mem), BL p l e (rmL 3) s m args below meth c LX D cy ad 6 (QI LX D cy ad) 107 [(0, .ref (ad 10)), (1, .ref (ad 5)), (2, .int x2), (3, .int x3)] [] M (loopN (bX6_isImage_107 n0) (fun _ _ _ => none) w x2 x3 M) := by
  intro w
  induction w with
  | zero =>
    intros
    exact b_none
  | succ w ih =>
    intro x2 x3 M
    exact tbX6_isImage_107 n0 hO _ ih x2 x3 M
theorem tfX6_isImage_107 (n0 : Nat) (hO : OKc p (rmL 3) s m args meth c LX D cy ad cX6_isImage RX6 6 3 (some .boolean)) (x2 : Int32) (x3 : Int32) (M : Mem) : BL p l e (rmL 3) s m args below meth c LX D cy ad 6 (QI LX D cy ad) 107 [(0, .ref (ad 10)), (1, .ref (ad 5)), (2, .int x2), (3, .int x3)] [] M (fX6_isImage_107 n0 x2 x3 M) := lX6_isImage_107 n0 hO n0 x2 x3 M
theorem tbX6_isImage_28 (n0 : Nat) (hO : OKc p (rmL 3) s m args meth c LX D cy ad cX6_isImage RX6 6 3 (some .boolean)) (k28 : Int32 → Int32 → Mem → Option (Int32 × Mem)) (hk28 : ∀ (x2 : Int32) (x3 : Int32) (M : Mem), BL p l e (rmL 3) s m args below meth c LX D cy ad 6 (QI LX D cy ad) 28 [(0, .ref (ad 10)), (1, .ref (ad 5)), (2, .int x2), (3, .int x3)] [] M (k28 x2 x3 M)) (x2 : Int32) (x3 : Int32) (M : Mem) : BL p l e (rmL 3) s m args below meth c LX D cy ad 6 (QI LX D cy ad) 28 [(0, .ref (ad 10)), (1, .ref (ad 5)), (2, .int x2), (3, .int x3)] [] M (bX6_isImage_28 n0 k28 x2 x3 M) := by
  unfold bX6_isImage_28
  refine b_iload_n hO dX6_isImage_28 3 rfl rfl ?_
  refine b_aload_n hO dX6_isImage_29 0 rfl rfl ?_
  refine b_getR hO flX6_34 kLX_10 (id := 1280) rfl rfl (rk := 9) rfl (by decide) dX6_isImage_30 (fun hg1 => ?_)
  refine b_get hO flX6_38 hg1 (v := .int (gI _ (128 * (gR M 1280) + 5))) rfl dX6_isImage_33 ?_
  refine b_icmp_ge hO dX6_isImage_36 (tgt := 105) (by decide) ?_ ?_
  · refine b_iconst hO dX6_isImage_105 ic_i_0 ?_
    refine b_istore_n hO dX6_isImage_106 rfl (by decide) (lv' := [(3, .int _), (0, .ref _), (1, .ref _), (2, .int _)]) rfl ?_
    refine b_sub [1, 2, 3, 0] rfl ?_
    exact tfX6_isImage_107 n0 hO _ _ _
  · refine b_aload_n hO dX6_isImage_39 1 rfl rfl ?_
    refine b_iconst hO dX6_isImage_40 ic_i_2 ?_
    refine b_iconst hO dX6_isImage_41 ic_i_3 ?_
    refine b_iload_n hO dX6_isImage_42 3 rfl rfl ?_
    refine b_imul hO dX6_isImage_43 ?_
    refine b_iadd hO dX6_isImage_44 ?_
    refine b_callVI hO mdX7_at mvX7_at w1226 (ci := 7) rfl rfl (by decide) kLX_5 (As := [.int _]) (st := []) (ctX7_at n0 hO.2.2.2.2.2.2.1 _ _) (Nat.le_of_ble_eq_true rfl) rfl rfl (Nat.le_of_ble_eq_true rfl) dX6_isImage_45 (fun z45 => ?_)
    refine b_istore hO dX6_isImage_48 (by decide) (lv' := [(4, .int _), (0, .ref _), (1, .ref _), (2, .int _), (3, .int _)]) rfl ?_
    refine b_iload hO dX6_isImage_50 0 rfl ?_
    refine b_sipush hO dX6_isImage_52 ic_s_255 ?_
    refine b_icmp_eq hO dX6_isImage_55 (tgt := 70) (by decide) ?_ ?_
    · refine b_sub [1, 2, 3, 4] rfl ?_
      exact tfX6_isImage_70 n0 hO k28 hk28 _ _ _
    · refine b_aload_n hO dX6_isImage_58 1 rfl rfl ?_
      refine b_getR hO flX6_34 kLX_10 (id := 1280) rfl rfl (rk := 9) rfl (by decide) dX6_isImage_59 (fun hg2 => ?_)
      refine b_iload hO dX6_isImage_62 0 rfl ?_
      refine b_callVI hO mdX9_isThing mvX9_isThing w1227 (ci := 9) rfl rfl (by decide) hg2 (As := [.int _]) (st := []) (ctX9_isThing n0 _ hg2 hO.2.2.2.2.2.2.1 _ _) (Nat.le_of_ble_eq_true rfl) rfl rfl (Nat.le_of_ble_eq_true rfl) dX6_isImage_64 (fun z64 => ?_)
      refine b_if_eq hO dX6_isImage_67 (tgt := 74) (by decide) ?_ ?_
      · refine b_iconst hO dX6_isImage_74 ic_i_0 ?_
        refine b_sub [1, 2, 3, 4] rfl ?_
        exact tfX6_isImage_75 n0 hO k28 hk28 _ _ _ _
      · refine b_sub [1, 2, 3, 4] rfl ?_
        exact tfX6_isImage_70 n0 hO k28 hk28 _ _ _
theorem lX6_isImage_28 (n0 : Nat) (hO : OKc p (rmL 3) s m args meth c LX D cy ad cX6_isImage RX6 6 3 (some .boolean)) : ∀ (w : Nat) (x2 : Int32) (x3 : Int32) (M : Mem), BL p l e (rmL 3) s m args below meth c LX D cy ad 6 (QI LX D cy ad) 28 [(0, .ref (ad 10)), (1, .ref (ad 5)), (2, .int x2), (3, .int x3)] [] M (loopN (bX6_isImage_28 n0) (fun _ _ _ => none) w x2 x3 M) := by
  intro w
  induction w with
  | zero =>
    intros
    exact b_none
  | succ w ih =>
    intro x2 x3 M
    exact tbX6_isImage_28 n0 hO _ ih x2 x3 M
theorem tfX6_isImage_28 (n0 : Nat) (hO : OKc p (rmL 3) s m args meth c LX D cy ad cX6_isImage RX6 6 3 (some .boolean)) (x2 : Int32) (x3 : Int32) (M : Mem) : BL p l e (rmL 3) s m args below meth c LX D cy ad 6 (QI LX D cy ad) 28 [(0, .ref (ad 10)), (1, .ref (ad 5)), (2, .int x2), (3, .int x3)] [] M (fX6_isImage_28 n0 x2 x3 M) := lX6_isImage_28 n0 hO n0 x2 x3 M
theorem tfX6_isImage (n0 : Nat) (hO : OKc p (rmL 3) s m args meth c LX D cy ad cX6_isImage RX6 6 3 (some .boolean)) (M : Mem) : BL p l e (rmL 3) s m args below meth c LX D cy ad 6 (QI LX D cy ad) 0 [(0, .ref (ad 10)), (1, .ref (ad 5))] [] M (fX6_isImage n0 M) := by
  unfold fX6_isImage
  refine b_aload_n hO dX6_isImage_0 0 rfl rfl ?_
  refine b_callVI hO mdX6_imageSize mvX6_imageSize w1202 (ci := 6) rfl rfl (by decide) kLX_10 (As := []) (st := []) (ctX6_imageSize n0 hO.2.2.2.2.2.2.1 _) (Nat.le_of_ble_eq_true rfl) rfl rfl (Nat.le_of_ble_eq_true rfl) dX6_isImage_1 (fun z1 => ?_)
  refine b_istore_n hO dX6_isImage_4 rfl (by decide) (lv' := [(2, .int _), (0, .ref _), (1, .ref _)]) rfl ?_
  refine b_aload_n hO dX6_isImage_5 2 rfl rfl ?_
  refine b_get hO flX6_104 kLX_5 (v := .int (gI _ 641)) rfl dX6_isImage_6 ?_
  refine b_iload_n hO dX6_isImage_9 0 rfl rfl ?_
  refine b_icmp_ne hO dX6_isImage_10 (tgt := 24) (by decide) ?_ ?_
  · refine b_iconst hO dX6_isImage_24 ic_i_0 ?_
    exact b_zretc hO (Or.inl rfl) dX6_isImage_25
  · refine b_aload_n hO dX6_isImage_13 2 rfl rfl ?_
    refine b_iconst hO dX6_isImage_14 ic_i_0 ?_
    refine b_callVI hO mdX7_pairAt mvX7_pairAt w1221 (ci := 7) rfl rfl (by decide) kLX_5 (As := [.int _]) (st := []) (ctX7_pairAt n0 hO.2.2.2.2.2.2.1 _ _) (Nat.le_of_ble_eq_true rfl) rfl rfl (Nat.le_of_ble_eq_true rfl) dX6_isImage_15 (fun z15 => ?_)
    refine b_sipush hO dX6_isImage_18 ic_s_9999 ?_
    refine b_icmp_le hO dX6_isImage_21 (tgt := 26) (by decide) ?_ ?_
    · refine b_iconst hO dX6_isImage_26 ic_i_0 ?_
      refine b_istore_n hO dX6_isImage_27 rfl (by decide) (lv' := [(3, .int _), (2, .int _), (0, .ref _), (1, .ref _)]) rfl ?_
      refine b_sub [2, 3, 1, 0] rfl ?_
      exact tfX6_isImage_28 n0 hO _ _ _
    · refine b_iconst hO dX6_isImage_24 ic_i_0 ?_
      exact b_zretc hO (Or.inl rfl) dX6_isImage_25
theorem ctX6_isImage (n0 : Nat) (hI : Inj LX ad) (M : Mem) : CT l LX D cy ad yX6_isImage cX6_isImage 6 (some .boolean) 3 (QI LX D cy ad) [.ref (ad 10), .ref (ad 5)] M (fX6_isImage n0 M) :=
  CT.mk LXok hI (by decide) (Nat.le_of_ble_eq_true rfl) (fun hO => tfX6_isImage n0 hO M)
/-! X6_readImage -/
def fX6_readImage_54 (n0 : Nat) (k16 : Int32 → Mem → Option (Mem)) (x2 : Int32) (u1 : Int32) (u2 : Int32) (M : Mem) : Option (Mem) :=
  if oob u1 5 then none else
  bnd (sA M 11 (Int32.toNatClampNeg u1) u2) fun M54 =>
  (fX7_pairAt n0 ((3 : Int32) + ((3 : Int32) * x2)) M54).bind fun z66 =>
  if oob x2 5 then none else
  bnd (sA z66.2 12 (Int32.toNatClampNeg x2) z66.1) fun M69 =>
  k16 (x2 + (1 : Int32)) M69
def bX6_readImage_78 (n0 : Nat) (k78 : Int32 → Mem → Option (Mem)) (x2 : Int32) (M : Mem) : Option (Mem) :=
  if (gI M (128 * (gR M 1280) + 12)) ≤ x2 then
    some M
  else
    (fX7_at n0 (((2 : Int32) + ((3 : Int32) * (gI M (128 * (gR M 1280) + 5)))) + x2) M).bind fun z108 =>
    if oob x2 6 then none else
    bnd (sA z108.2 13 (Int32.toNatClampNeg x2) z108.1) fun M111 =>
    k78 (x2 + (1 : Int32)) M111
def fX6_readImage_78 (n0 : Nat) : Int32 → Mem → Option (Mem) := loopN (bX6_readImage_78 n0) (fun _ _ => none) n0
def bX6_readImage_16 (n0 : Nat) (k16 : Int32 → Mem → Option (Mem)) (x2 : Int32) (M : Mem) : Option (Mem) :=
  if (gI M (128 * (gR M 1280) + 5)) ≤ x2 then
    fX6_readImage_78 n0 (0 : Int32) M
  else
    (fX7_at n0 ((2 : Int32) + ((3 : Int32) * x2)) M).bind fun z33 =>
    if z33.1 = (255 : Int32) then
      fX6_readImage_54 n0 k16 x2 x2 (-1 : Int32) z33.2
    else
      fX6_readImage_54 n0 k16 x2 x2 z33.1 z33.2
def fX6_readImage_16 (n0 : Nat) : Int32 → Mem → Option (Mem) := loopN (bX6_readImage_16 n0) (fun _ _ => none) n0
def fX6_readImage (n0 : Nat) (M : Mem) : Option (Mem) :=
  (fX7_pairAt n0 (0 : Int32) M).bind fun z3 =>
  bnd (sI z3.2 1281 z3.1) fun M6 =>
  bnd (sI M6 1285 (0 : Int32)) fun M11 =>
  fX6_readImage_16 n0 (0 : Int32) M11
theorem tfX6_readImage_54 (n0 : Nat) (hO : OKc p (rmL 3) s m args meth c LX D cy ad cX6_readImage RX6 4 3 none) (k16 : Int32 → Mem → Option (Mem)) (hk16 : ∀ (x2 : Int32) (M : Mem), BL p l e (rmL 3) s m args below meth c LX D cy ad 4 (QV LX D cy ad) 16 [(0, .ref (ad 10)), (1, .ref (ad 5)), (2, .int x2)] [] M (k16 x2 M)) (x2 : Int32) (u1 : Int32) (u2 : Int32) (M : Mem) : BL p l e (rmL 3) s m args below meth c LX D cy ad 4 (QV LX D cy ad) 54 [(0, .ref (ad 10)), (1, .ref (ad 5)), (2, .int x2)] [.int u2, .int u1, .ref (ad 11)] M (fX6_readImage_54 n0 k16 x2 u1 u2 M) := by
  unfold fX6_readImage_54
  refine b_iast hO kLX_11 (n := 5) rfl dX6_readImage_54 ?_
  refine b_bnd (fun M54 => ?_)
  refine b_aload_n hO dX6_readImage_55 0 rfl rfl ?_
  refine b_get hO flX6_19 kLX_10 (v := .ref (ad 12)) rfl dX6_readImage_56 ?_
  refine b_iload_n hO dX6_readImage_59 2 rfl rfl ?_
  refine b_aload_n hO dX6_readImage_60 1 rfl rfl ?_
  refine b_iconst hO dX6_readImage_61 ic_i_3 ?_
  refine b_iconst hO dX6_readImage_62 ic_i_3 ?_
  refine b_iload_n hO dX6_readImage_63 2 rfl rfl ?_
  refine b_imul hO dX6_readImage_64 ?_
  refine b_iadd hO dX6_readImage_65 ?_
  refine b_callVI hO mdX7_pairAt mvX7_pairAt w1221 (ci := 7) rfl rfl (by decide) kLX_5 (As := [.int _]) (st := [.int _, .ref _]) (ctX7_pairAt n0 hO.2.2.2.2.2.2.1 _ _) (Nat.le_of_ble_eq_true rfl) rfl rfl (Nat.le_of_ble_eq_true rfl) dX6_readImage_66 (fun z66 => ?_)
  refine b_iast hO kLX_12 (n := 5) rfl dX6_readImage_69 ?_
  refine b_bnd (fun M69 => ?_)
  refine b_iinc hO dX6_readImage_70 2 rfl ic_i_1 (by decide) (lv' := [(2, .int _), (0, .ref _), (1, .ref _)]) rfl ?_
  refine b_goto hO dX6_readImage_73 (tgt := 16) (by decide) ?_
  refine b_sub [1, 2, 0] rfl ?_
  exact hk16 _ _
theorem tbX6_readImage_78 (n0 : Nat) (hO : OKc p (rmL 3) s m args meth c LX D cy ad cX6_readImage RX6 4 3 none) (k78 : Int32 → Mem → Option (Mem)) (hk78 : ∀ (x2 : Int32) (M : Mem), BL p l e (rmL 3) s m args below meth c LX D cy ad 4 (QV LX D cy ad) 78 [(0, .ref (ad 10)), (1, .ref (ad 5)), (2, .int x2)] [] M (k78 x2 M)) (x2 : Int32) (M : Mem) : BL p l e (rmL 3) s m args below meth c LX D cy ad 4 (QV LX D cy ad) 78 [(0, .ref (ad 10)), (1, .ref (ad 5)), (2, .int x2)] [] M (bX6_readImage_78 n0 k78 x2 M) := by
  unfold bX6_readImage_78
  refine b_iload_n hO dX6_readImage_78 2 rfl rfl ?_
  refine b_aload_n hO dX6_readImage_79 0 rfl rfl ?_
  refine b_getR hO flX6_34 kLX_10 (id := 1280) rfl rfl (rk := 9) rfl (by decide) dX6_readImage_80 (fun hg1 => ?_)
  refine b_get hO flX6_50 hg1 (v := .int (gI _ (128 * (gR M 1280) + 12))) rfl dX6_readImage_83 ?_
  refine b_icmp_ge hO dX6_readImage_86 (tgt := 118) (by decide) ?_ ?_
  · exact b_vret hO dX6_readImage_118
  · refine b_aload_n hO dX6_readImage_89 0 rfl rfl ?_
    refine b_get hO flX6_22 kLX_10 (v := .ref (ad 13)) rfl dX6_readImage_90 ?_
    refine b_iload_n hO dX6_readImage_93 2 rfl rfl ?_
    refine b_aload_n hO dX6_readImage_94 1 rfl rfl ?_
    refine b_iconst hO dX6_readImage_95 ic_i_2 ?_
    refine b_iconst hO dX6_readImage_96 ic_i_3 ?_
    refine b_aload_n hO dX6_readImage_97 0 rfl rfl ?_
    refine b_getR hO flX6_34 kLX_10 (id := 1280) rfl rfl (rk := 9) rfl (by decide) dX6_readImage_98 (fun hg2 => ?_)
    refine b_get hO flX6_38 hg2 (v := .int (gI _ (128 * (gR M 1280) + 5))) rfl dX6_readImage_101 ?_
    refine b_imul hO dX6_readImage_104 ?_
    refine b_iadd hO dX6_readImage_105 ?_
    refine b_iload_n hO dX6_readImage_106 2 rfl rfl ?_
    refine b_iadd hO dX6_readImage_107 ?_
    refine b_callVI hO mdX7_at mvX7_at w1226 (ci := 7) rfl rfl (by decide) kLX_5 (As := [.int _]) (st := [.int _, .ref _]) (ctX7_at n0 hO.2.2.2.2.2.2.1 _ _) (Nat.le_of_ble_eq_true rfl) rfl rfl (Nat.le_of_ble_eq_true rfl) dX6_readImage_108 (fun z108 => ?_)
    refine b_iast hO kLX_13 (n := 6) rfl dX6_readImage_111 ?_
    refine b_bnd (fun M111 => ?_)
    refine b_iinc hO dX6_readImage_112 2 rfl ic_i_1 (by decide) (lv' := [(2, .int _), (0, .ref _), (1, .ref _)]) rfl ?_
    refine b_goto hO dX6_readImage_115 (tgt := 78) (by decide) ?_
    refine b_sub [1, 2, 0] rfl ?_
    exact hk78 _ _
theorem lX6_readImage_78 (n0 : Nat) (hO : OKc p (rmL 3) s m args meth c LX D cy ad cX6_readImage RX6 4 3 none) : ∀ (w : Nat) (x2 : Int32) (M : Mem), BL p l e (rmL 3) s m args below meth c LX D cy ad 4 (QV LX D cy ad) 78 [(0, .ref (ad 10)), (1, .ref (ad 5)), (2, .int x2)] [] M (loopN (bX6_readImage_78 n0) (fun _ _ => none) w x2 M) := by
  intro w
  induction w with
  | zero =>
    intros
    exact b_none
  | succ w ih =>
    intro x2 M
    exact tbX6_readImage_78 n0 hO _ ih x2 M
theorem tfX6_readImage_78 (n0 : Nat) (hO : OKc p (rmL 3) s m args meth c LX D cy ad cX6_readImage RX6 4 3 none) (x2 : Int32) (M : Mem) : BL p l e (rmL 3) s m args below meth c LX D cy ad 4 (QV LX D cy ad) 78 [(0, .ref (ad 10)), (1, .ref (ad 5)), (2, .int x2)] [] M (fX6_readImage_78 n0 x2 M) := lX6_readImage_78 n0 hO n0 x2 M
theorem tbX6_readImage_16 (n0 : Nat) (hO : OKc p (rmL 3) s m args meth c LX D cy ad cX6_readImage RX6 4 3 none) (k16 : Int32 → Mem → Option (Mem)) (hk16 : ∀ (x2 : Int32) (M : Mem), BL p l e (rmL 3) s m args below meth c LX D cy ad 4 (QV LX D cy ad) 16 [(0, .ref (ad 10)), (1, .ref (ad 5)), (2, .int x2)] [] M (k16 x2 M)) (x2 : Int32) (M : Mem) : BL p l e (rmL 3) s m args below meth c LX D cy ad 4 (QV LX D cy ad) 16 [(0, .ref (ad 10)), (1, .ref (ad 5)), (2, .int x2)] [] M (bX6_readImage_16 n0 k16 x2 M) := by
  unfold bX6_readImage_16
  refine b_iload_n hO dX6_readImage_16 2 rfl rfl ?_
  refine b_aload_n hO dX6_readImage_17 0 rfl rfl ?_
  refine b_getR hO flX6_34 kLX_10 (id := 1280) rfl rfl (rk := 9) rfl (by decide) dX6_readImage_18 (fun hg1 => ?_)
  refine b_get hO flX6_38 hg1 (v := .int (gI _ (128 * (gR M 1280) + 5))) rfl dX6_readImage_21 ?_
  refine b_icmp_ge hO dX6_readImage_24 (tgt := 76) (by decide) ?_ ?_
  · refine b_iconst hO dX6_readImage_76 ic_i_0 ?_
    refine b_istore_n hO dX6_readImage_77 rfl (by decide) (lv' := [(2, .int _), (0, .ref _), (1, .ref _)]) rfl ?_
    refine b_sub [1, 2, 0] rfl ?_
    exact tfX6_readImage_78 n0 hO _ _
  · refine b_aload_n hO dX6_readImage_27 1 rfl rfl ?_
    refine b_iconst hO dX6_readImage_28 ic_i_2 ?_
    refine b_iconst hO dX6_readImage_29 ic_i_3 ?_
    refine b_iload_n hO dX6_readImage_30 2 rfl rfl ?_
    refine b_imul hO dX6_readImage_31 ?_
    refine b_iadd hO dX6_readImage_32 ?_
    refine b_callVI hO mdX7_at mvX7_at w1226 (ci := 7) rfl rfl (by decide) kLX_5 (As := [.int _]) (st := []) (ctX7_at n0 hO.2.2.2.2.2.2.1 _ _) (Nat.le_of_ble_eq_true rfl) rfl rfl (Nat.le_of_ble_eq_true rfl) dX6_readImage_33 (fun z33 => ?_)
    refine b_istore_n hO dX6_readImage_36 rfl (by decide) (lv' := [(3, .int _), (0, .ref _), (1, .ref _), (2, .int _)]) rfl ?_
    refine b_aload_n hO dX6_readImage_37 1 rfl rfl ?_
    refine b_get hO flX6_15 kLX_10 (v := .ref (ad 11)) rfl dX6_readImage_38 ?_
    refine b_iload_n hO dX6_readImage_41 3 rfl rfl ?_
    refine b_iload_n hO dX6_readImage_42 0 rfl rfl ?_
    refine b_sipush hO dX6_readImage_43 ic_s_255 ?_
    refine b_icmp_ne hO dX6_readImage_46 (tgt := 53) (by decide) ?_ ?_
    · refine b_iload_n hO dX6_readImage_53 0 rfl rfl ?_
      refine b_sub [1, 2, 3] rfl ?_
      exact tfX6_readImage_54 n0 hO k16 hk16 _ _ _ _
    · refine b_iconst hO dX6_readImage_49 ic_i_m1 ?_
      refine b_goto hO dX6_readImage_50 (tgt := 54) (by decide) ?_
      refine b_sub [1, 2, 3] rfl ?_
      exact tfX6_readImage_54 n0 hO k16 hk16 _ _ _ _
theorem lX6_readImage_16 (n0 : Nat) (hO : OKc p (rmL 3) s m args meth c LX D cy ad cX6_readImage RX6 4 3 none) : ∀ (w : Nat) (x2 : Int32) (M : Mem), BL p l e (rmL 3) s m args below meth c LX D cy ad 4 (QV LX D cy ad) 16 [(0, .ref (ad 10)), (1, .ref (ad 5)), (2, .int x2)] [] M (loopN (bX6_readImage_16 n0) (fun _ _ => none) w x2 M) := by
  intro w
  induction w with
  | zero =>
    intros
    exact b_none
  | succ w ih =>
    intro x2 M
    exact tbX6_readImage_16 n0 hO _ ih x2 M
theorem tfX6_readImage_16 (n0 : Nat) (hO : OKc p (rmL 3) s m args meth c LX D cy ad cX6_readImage RX6 4 3 none) (x2 : Int32) (M : Mem) : BL p l e (rmL 3) s m args below meth c LX D cy ad 4 (QV LX D cy ad) 16 [(0, .ref (ad 10)), (1, .ref (ad 5)), (2, .int x2)] [] M (fX6_readImage_16 n0 x2 M) := lX6_readImage_16 n0 hO n0 x2 M
theorem tfX6_readImage (n0 : Nat) (hO : OKc p (rmL 3) s m args meth c LX D cy ad cX6_readImage RX6 4 3 none) (M : Mem) : BL p l e (rmL 3) s m args below meth c LX D cy ad 4 (QV LX D cy ad) 0 [(0, .ref (ad 10)), (1, .ref (ad 5))] [] M (fX6_readImage n0 M) := by
  unfold fX6_readImage
  refine b_aload_n hO dX6_readImage_0 0 rfl rfl ?_
  refine b_aload_n hO dX6_readImage_1 1 rfl rfl ?_
  refine b_iconst hO dX6_readImage_2 ic_i_0 ?_
  refine b_callVI hO mdX7_pairAt mvX7_pairAt w1221 (ci := 7) rfl rfl (by decide) kLX_5 (As := [.int _]) (st := [.ref _]) (ctX7_pairAt n0 hO.2.2.2.2.2.2.1 _ _) (Nat.le_of_ble_eq_true rfl) rfl rfl (Nat.le_of_ble_eq_true rfl) dX6_readImage_3 (fun z3 => ?_)
  refine b_putI hO flX6_9 kLX_10 rfl rfl rfl (id := 1281) rfl dX6_readImage_6 ?_
  refine b_bnd (fun M6 => ?_)
  refine b_aload_n hO dX6_readImage_9 0 rfl rfl ?_
  refine b_iconst hO dX6_readImage_10 ic_i_0 ?_
  refine b_putI hO flX6_25 kLX_10 rfl rfl rfl (id := 1285) rfl dX6_readImage_11 ?_
  refine b_bnd (fun M11 => ?_)
  refine b_iconst hO dX6_readImage_14 ic_i_0 ?_
  refine b_istore_n hO dX6_readImage_15 rfl (by decide) (lv' := [(2, .int _), (0, .ref _), (1, .ref _)]) rfl ?_
  refine b_sub [1, 2, 0] rfl ?_
  exact tfX6_readImage_16 n0 hO _ _
theorem ctX6_readImage (n0 : Nat) (hI : Inj LX ad) (M : Mem) : CT l LX D cy ad yX6_readImage cX6_readImage 4 none 3 (QV LX D cy ad) [.ref (ad 10), .ref (ad 5)] M (fX6_readImage n0 M) :=
  CT.mk LXok hI (by decide) (Nat.le_of_ble_eq_true rfl) (fun hO => tfX6_readImage n0 hO M)
end
end
section
section
variable {p : Program} {l : Launch} {e : Env} {s : State} {m : MethodId} {args : Array Value} {below : List Frame} {meth : Method} {c : Code} {D : va_G} {cy : Nat → ClassId} {ad : Nat → Nat} {dd : Nat}

/-! X2_remember -/
def fX2_remember (n0 : Nat) (M : Mem) : Option (Mem) :=
  if oob (gI M 2049) 20 then none else
  (fX6_save n0 (63 + Int32.toNatClampNeg (gI M 2049)) M).bind fun z10 =>
  if (20 : Int32) = 0 then none else
  bnd (sI z10 2049 (rem32 ((gI z10 2049) + (1 : Int32)) (20 : Int32))) fun M23 =>
  some (sI M23 2050 (imin (20 : Int32) ((gI M23 2050) + (1 : Int32))))
theorem tfX2_remember (n0 : Nat) (hO : OKc p (rmL 2) s m args meth c LX D cy ad cX2_remember RX2 2 2 none) (M : Mem) : BL p l e (rmL 2) s m args below meth c LX D cy ad 2 (QV LX D cy ad) 0 [(0, .ref (ad 16)), (1, .ref (ad 10))] [] M (fX2_remember n0 M) := by
  unfold fX2_remember
  refine b_aload_n hO dX2_remember_0 1 rfl rfl ?_
  refine b_aload_n hO dX2_remember_1 0 rfl rfl ?_
  refine b_get hO flX2_13 kLX_16 (v := .ref (ad 17)) rfl dX2_remember_2 ?_
  refine b_aload_n hO dX2_remember_5 0 rfl rfl ?_
  refine b_get hO flX2_18 kLX_16 (v := .int (gI _ 2049)) rfl dX2_remember_6 ?_
  refine b_aald hO kLX_17 (n := 20) rfl (b := 63) rfl dX2_remember_9 kg_17 (fun hg1 => ?_)
  refine b_callVV hO mdX6_save mvX6_save w1132 (ci := 6) rfl rfl (by decide) kLX_10 (As := [.ref _]) (st := []) (ctX6_save n0 _ hg1 hO.2.2.2.2.2.2.1 _) (Nat.le_of_ble_eq_true rfl) rfl rfl (Nat.le_of_ble_eq_true rfl) dX2_remember_10 (fun z10 => ?_)
  refine b_aload_n hO dX2_remember_13 0 rfl rfl ?_
  refine b_aload_n hO dX2_remember_14 0 rfl rfl ?_
  refine b_get hO flX2_18 kLX_16 (v := .int (gI _ 2049)) rfl dX2_remember_15 ?_
  refine b_iconst hO dX2_remember_18 ic_i_1 ?_
  refine b_iadd hO dX2_remember_19 ?_
  refine b_bipush hO dX2_remember_20 ic_b_20 ?_
  refine b_irem hO dX2_remember_22 ?_
  refine b_putI hO flX2_18 kLX_16 rfl rfl rfl (id := 2049) rfl dX2_remember_23 ?_
  refine b_bnd (fun M23 => ?_)
  refine b_aload_n hO dX2_remember_26 0 rfl rfl ?_
  refine b_bipush hO dX2_remember_27 ic_b_20 ?_
  refine b_aload_n hO dX2_remember_29 0 rfl rfl ?_
  refine b_get hO flX2_22 kLX_16 (v := .int (gI _ 2050)) rfl dX2_remember_30 ?_
  refine b_iconst hO dX2_remember_33 ic_i_1 ?_
  refine b_iadd hO dX2_remember_34 ?_
  refine b_mmin hO w1139 w591 w136 wm592 (by first | decide | omega) (Nat.le_of_ble_eq_true rfl) dX2_remember_35 ?_
  refine b_putI hO flX2_22 kLX_16 rfl rfl rfl (id := 2050) rfl dX2_remember_38 ?_
  exact b_vret hO dX2_remember_41
theorem ctX2_remember (n0 : Nat) (hI : Inj LX ad) (M : Mem) : CT l LX D cy ad yX2_remember cX2_remember 2 none 2 (QV LX D cy ad) [.ref (ad 16), .ref (ad 10)] M (fX2_remember n0 M) :=
  CT.mk LXok hI (by decide) (Nat.le_of_ble_eq_true rfl) (fun hO => tfX2_remember n0 hO M)
/-! X2_bringBack -/
def fX2_bringBack (n0 : Nat) (M : Mem) : Option (Int32 × Mem) :=
  if 0 < (gI M 2050) then
    if (20 : Int32) = 0 then none else
    bnd (sI M 2049 (rem32 (((gI M 2049) + (20 : Int32)) - (1 : Int32)) (20 : Int32))) fun M22 =>
    bnd (sI M22 2050 ((gI M22 2050) - (1 : Int32))) fun M32 =>
    if oob (gI M32 2049) 20 then none else
    (fX6_bringBack n0 (63 + Int32.toNatClampNeg (gI M32 2049)) M32).bind fun z45 =>
    some ((1 : Int32), z45)
  else
    some ((0 : Int32), M)
theorem tfX2_bringBack (n0 : Nat) (hO : OKc p (rmL 2) s m args meth c LX D cy ad cX2_bringBack RX2 2 2 (some .boolean)) (M : Mem) : BL p l e (rmL 2) s m args below meth c LX D cy ad 2 (QI LX D cy ad) 0 [(0, .ref (ad 16)), (1, .ref (ad 10))] [] M (fX2_bringBack n0 M) := by
  unfold fX2_bringBack
  refine b_aload_n hO dX2_bringBack_0 0 rfl rfl ?_
  refine b_get hO flX2_22 kLX_16 (v := .int (gI _ 2050)) rfl dX2_bringBack_1 ?_
  refine b_if_gt hO dX2_bringBack_4 (tgt := 9) (by decide) ?_ ?_
  · refine b_aload_n hO dX2_bringBack_9 0 rfl rfl ?_
    refine b_aload_n hO dX2_bringBack_10 0 rfl rfl ?_
    refine b_get hO flX2_18 kLX_16 (v := .int (gI _ 2049)) rfl dX2_bringBack_11 ?_
    refine b_bipush hO dX2_bringBack_14 ic_b_20 ?_
    refine b_iadd hO dX2_bringBack_16 ?_
    refine b_iconst hO dX2_bringBack_17 ic_i_1 ?_
    refine b_isub hO dX2_bringBack_18 ?_
    refine b_bipush hO dX2_bringBack_19 ic_b_20 ?_
    refine b_irem hO dX2_bringBack_21 ?_
    refine b_putI hO flX2_18 kLX_16 rfl rfl rfl (id := 2049) rfl dX2_bringBack_22 ?_
    refine b_bnd (fun M22 => ?_)
    refine b_aload_n hO dX2_bringBack_25 0 rfl rfl ?_
    refine b_dup hO dX2_bringBack_26 rfl ?_
    refine b_get hO flX2_22 kLX_16 (v := .int (gI _ 2050)) rfl dX2_bringBack_27 ?_
    refine b_iconst hO dX2_bringBack_30 ic_i_1 ?_
    refine b_isub hO dX2_bringBack_31 ?_
    refine b_putI hO flX2_22 kLX_16 rfl rfl rfl (id := 2050) rfl dX2_bringBack_32 ?_
    refine b_bnd (fun M32 => ?_)
    refine b_aload_n hO dX2_bringBack_35 1 rfl rfl ?_
    refine b_aload_n hO dX2_bringBack_36 0 rfl rfl ?_
    refine b_get hO flX2_13 kLX_16 (v := .ref (ad 17)) rfl dX2_bringBack_37 ?_
    refine b_aload_n hO dX2_bringBack_40 0 rfl rfl ?_
    refine b_get hO flX2_18 kLX_16 (v := .int (gI _ 2049)) rfl dX2_bringBack_41 ?_
    refine b_aald hO kLX_17 (n := 20) rfl (b := 63) rfl dX2_bringBack_44 kg_17 (fun hg1 => ?_)
    refine b_callVV hO mdX6_bringBack mvX6_bringBack w1182 (ci := 6) rfl rfl (by decide) kLX_10 (As := [.ref _]) (st := []) (ctX6_bringBack n0 _ hg1 hO.2.2.2.2.2.2.1 _) (Nat.le_of_ble_eq_true rfl) rfl rfl (Nat.le_of_ble_eq_true rfl) dX2_bringBack_45 (fun z45 => ?_)
    refine b_iconst hO dX2_bringBack_48 ic_i_1 ?_
    exact b_zretc hO (Or.inr rfl) dX2_bringBack_49
  · refine b_iconst hO dX2_bringBack_7 ic_i_0 ?_
    exact b_zretc hO (Or.inl rfl) dX2_bringBack_8
theorem ctX2_bringBack (n0 : Nat) (hI : Inj LX ad) (M : Mem) : CT l LX D cy ad yX2_bringBack cX2_bringBack 2 (some .boolean) 2 (QI LX D cy ad) [.ref (ad 16), .ref (ad 10)] M (fX2_bringBack n0 M) :=
  CT.mk LXok hI (by decide) (Nat.le_of_ble_eq_true rfl) (fun hO => tfX2_bringBack n0 hO M)
end
end
section
section
variable {p : Program} {l : Launch} {e : Env} {s : State} {m : MethodId} {args : Array Value} {below : List Frame} {meth : Method} {c : Code} {D : va_G} {cy : Nat → ClassId} {ad : Nat → Nat} {dd : Nat}

/-! X11_refuse -/
def fX11_refuse (n0 : Nat) (x1 : Int32) (M : Mem) : Option (Int32 × Mem) :=
  if x1 < 0 then
    some ((-1 : Int32), M)
  else
    if (6 : Int32) ≤ x1 then
      some ((-1 : Int32), M)
    else
      if oob x1 6 then none else
      if oob x1 6 then none else
      some ((-1 : Int32), (sA M 30 (Int32.toNatClampNeg x1) ((gA M 30 (Int32.toNatClampNeg x1)) + (1 : Int32))))
theorem tfX11_refuse (n0 : Nat) (hO : OKc p (rmL 1) s m args meth c LX D cy ad cX11_refuse RX11 2 1 (some .int)) (x1 : Int32) (M : Mem) : BL p l e (rmL 1) s m args below meth c LX D cy ad 2 (QI LX D cy ad) 0 [(0, .ref (ad 0)), (1, .int x1)] [] M (fX11_refuse n0 x1 M) := by
  unfold fX11_refuse
  refine b_iload_n hO dX11_refuse_0 1 rfl rfl ?_
  refine b_if_lt hO dX11_refuse_1 (tgt := 20) (by decide) ?_ ?_
  · refine b_iconst hO dX11_refuse_20 ic_i_m1 ?_
    exact b_iret hO dX11_refuse_21
  · refine b_iload_n hO dX11_refuse_4 1 rfl rfl ?_
    refine b_bipush hO dX11_refuse_5 ic_b_6 ?_
    refine b_icmp_ge hO dX11_refuse_7 (tgt := 20) (by decide) ?_ ?_
    · refine b_iconst hO dX11_refuse_20 ic_i_m1 ?_
      exact b_iret hO dX11_refuse_21
    · refine b_aload_n hO dX11_refuse_10 0 rfl rfl ?_
      refine b_get hO flX11_85 kLX_0 (v := .ref (ad 30)) rfl dX11_refuse_11 ?_
      refine b_iload_n hO dX11_refuse_14 1 rfl rfl ?_
      refine b_dup2 hO dX11_refuse_15 rfl rfl ?_
      refine b_iald hO kLX_30 (n := 6) rfl dX11_refuse_16 ?_
      refine b_iconst hO dX11_refuse_17 ic_i_1 ?_
      refine b_iadd hO dX11_refuse_18 ?_
      refine b_iast hO kLX_30 (n := 6) rfl dX11_refuse_19 ?_
      refine b_iconst hO dX11_refuse_20 ic_i_m1 ?_
      exact b_iret hO dX11_refuse_21
theorem ctX11_refuse (n0 : Nat) (hI : Inj LX ad) (x1 : Int32) (M : Mem) : CT l LX D cy ad yX11_refuse cX11_refuse 2 (some .int) 1 (QI LX D cy ad) [.ref (ad 0), .int x1] M (fX11_refuse n0 x1 M) :=
  CT.mk LXok hI (by decide) (Nat.le_of_ble_eq_true rfl) (fun hO => tfX11_refuse n0 hO x1 M)
/-! X11_feed -/
def fX11_feed (n0 : Nat) (x1 : Int32) (x2 : Int32) (x3 : Int32) (x4 : Int32) (x5 : Int32) (M : Mem) : Option (Int32 × Mem) :=
  (fX7_hasRoomFor n0 (20 : Int32) M).bind fun z6 =>
  if z6.1 = 0 then
    (fX11_refuse n0 (0 : Int32) z6.2).bind fun z14 =>
    some (z14.1, z14.2)
  else
    (fX7_addNumber n0 x1 z6.2).bind fun z23 =>
    (fX7_addNumber n0 x2 z23).bind fun z31 =>
    (fX7_addNumber n0 x3 z31).bind fun z39 =>
    (fX7_addNumber n0 x4 z39).bind fun z48 =>
    (fX7_addNumber n0 x5 z48).bind fun z57 =>
    some ((gI z57 641), z57)
theorem tfX11_feed (n0 : Nat) (hO : OKc p (rmL 2) s m args meth c LX D cy ad cX11_feed RX11 6 2 (some .int)) (x1 : Int32) (x2 : Int32) (x3 : Int32) (x4 : Int32) (x5 : Int32) (M : Mem) : BL p l e (rmL 2) s m args below meth c LX D cy ad 6 (QI LX D cy ad) 0 [(0, .ref (ad 0)), (1, .int x1), (2, .int x2), (3, .int x3), (4, .int x4), (5, .int x5)] [] M (fX11_feed n0 x1 x2 x3 x4 x5 M) := by
  unfold fX11_feed
  refine b_aload_n hO dX11_feed_0 0 rfl rfl ?_
  refine b_get hO flX11_12 kLX_0 (v := .ref (ad 5)) rfl dX11_feed_1 ?_
  refine b_bipush hO dX11_feed_4 ic_b_20 ?_
  refine b_callVI hO mdX7_hasRoomFor mvX7_hasRoomFor w667 (ci := 7) rfl rfl (by decide) kLX_5 (As := [.int _]) (st := []) (ctX7_hasRoomFor n0 hO.2.2.2.2.2.2.1 _ _) (Nat.le_of_ble_eq_true rfl) rfl rfl (Nat.le_of_ble_eq_true rfl) dX11_feed_6 (fun z6 => ?_)
  refine b_if_ne hO dX11_feed_9 (tgt := 18) (by decide) ?_ ?_
  · refine b_aload_n hO dX11_feed_18 0 rfl rfl ?_
    refine b_get hO flX11_12 kLX_0 (v := .ref (ad 5)) rfl dX11_feed_19 ?_
    refine b_iload_n hO dX11_feed_22 1 rfl rfl ?_
    refine b_callVV hO mdX7_addNumber mvX7_addNumber w675 (ci := 7) rfl rfl (by decide) kLX_5 (As := [.int _]) (st := []) (ctX7_addNumber n0 hO.2.2.2.2.2.2.1 _ _) (Nat.le_of_ble_eq_true rfl) rfl rfl (Nat.le_of_ble_eq_true rfl) dX11_feed_23 (fun z23 => ?_)
    refine b_aload_n hO dX11_feed_26 0 rfl rfl ?_
    refine b_get hO flX11_12 kLX_0 (v := .ref (ad 5)) rfl dX11_feed_27 ?_
    refine b_iload_n hO dX11_feed_30 2 rfl rfl ?_
    refine b_callVV hO mdX7_addNumber mvX7_addNumber w675 (ci := 7) rfl rfl (by decide) kLX_5 (As := [.int _]) (st := []) (ctX7_addNumber n0 hO.2.2.2.2.2.2.1 _ _) (Nat.le_of_ble_eq_true rfl) rfl rfl (Nat.le_of_ble_eq_true rfl) dX11_feed_31 (fun z31 => ?_)
    refine b_aload_n hO dX11_feed_34 0 rfl rfl ?_
    refine b_get hO flX11_12 kLX_0 (v := .ref (ad 5)) rfl dX11_feed_35 ?_
    refine b_iload_n hO dX11_feed_38 3 rfl rfl ?_
    refine b_callVV hO mdX7_addNumber mvX7_addNumber w675 (ci := 7) rfl rfl (by decide) kLX_5 (As := [.int _]) (st := []) (ctX7_addNumber n0 hO.2.2.2.2.2.2.1 _ _) (Nat.le_of_ble_eq_true rfl) rfl rfl (Nat.le_of_ble_eq_true rfl) dX11_feed_39 (fun z39 => ?_)
    refine b_aload_n hO dX11_feed_42 0 rfl rfl ?_
    refine b_get hO flX11_12 kLX_0 (v := .ref (ad 5)) rfl dX11_feed_43 ?_
    refine b_iload hO dX11_feed_46 4 rfl ?_
    refine b_callVV hO mdX7_addNumber mvX7_addNumber w675 (ci := 7) rfl rfl (by decide) kLX_5 (As := [.int _]) (st := []) (ctX7_addNumber n0 hO.2.2.2.2.2.2.1 _ _) (Nat.le_of_ble_eq_true rfl) rfl rfl (Nat.le_of_ble_eq_true rfl) dX11_feed_48 (fun z48 => ?_)
    refine b_aload_n hO dX11_feed_51 0 rfl rfl ?_
    refine b_get hO flX11_12 kLX_0 (v := .ref (ad 5)) rfl dX11_feed_52 ?_
    refine b_iload hO dX11_feed_55 5 rfl ?_
    refine b_callVV hO mdX7_addNumber mvX7_addNumber w675 (ci := 7) rfl rfl (by decide) kLX_5 (As := [.int _]) (st := []) (ctX7_addNumber n0 hO.2.2.2.2.2.2.1 _ _) (Nat.le_of_ble_eq_true rfl) rfl rfl (Nat.le_of_ble_eq_true rfl) dX11_feed_57 (fun z57 => ?_)
    refine b_aload_n hO dX11_feed_60 0 rfl rfl ?_
    refine b_get hO flX11_12 kLX_0 (v := .ref (ad 5)) rfl dX11_feed_61 ?_
    refine b_get hO flX11_116 kLX_5 (v := .int (gI _ 641)) rfl dX11_feed_64 ?_
    exact b_iret hO dX11_feed_67
  · refine b_aload_n hO dX11_feed_12 0 rfl rfl ?_
    refine b_iconst hO dX11_feed_13 ic_i_0 ?_
    refine b_callVI hO mdX11_refuse mvX11_refuse w671 (ci := 11) rfl rfl (by decide) kLX_0 (As := [.int _]) (st := []) (ctX11_refuse n0 hO.2.2.2.2.2.2.1 _ _) (Nat.le_of_ble_eq_true rfl) rfl rfl (Nat.le_of_ble_eq_true rfl) dX11_feed_14 (fun z14 => ?_)
    exact b_iret hO dX11_feed_17
theorem ctX11_feed (n0 : Nat) (hI : Inj LX ad) (x1 : Int32) (x2 : Int32) (x3 : Int32) (x4 : Int32) (x5 : Int32) (M : Mem) : CT l LX D cy ad yX11_feed cX11_feed 6 (some .int) 2 (QI LX D cy ad) [.ref (ad 0), .int x1, .int x2, .int x3, .int x4, .int x5] M (fX11_feed n0 x1 x2 x3 x4 x5 M) :=
  CT.mk LXok hI (by decide) (Nat.le_of_ble_eq_true rfl) (fun hO => tfX11_feed n0 hO x1 x2 x3 x4 x5 M)
/-! X11_end -/
def fX11_end_15 (n0 : Nat) (M : Mem) : Option (Int32 × Mem) :=
  (fX11_refuse n0 (0 : Int32) M).bind fun z17 =>
  some ((0 : Int32), z17.2)
def fX11_end (n0 : Nat) (x1 : Int32) (M : Mem) : Option (Int32 × Mem) :=
  if x1 < 0 then
    fX11_end_15 n0 M
  else
    if x1 ≤ (gI M 641) then
      bnd (sI M 641 x1) fun M28 =>
      some ((1 : Int32), M28)
    else
      fX11_end_15 n0 M
theorem tfX11_end_15 (n0 : Nat) (hO : OKc p (rmL 2) s m args meth c LX D cy ad cX11_end RX11 2 2 (some .boolean)) (M : Mem) : BL p l e (rmL 2) s m args below meth c LX D cy ad 2 (QI LX D cy ad) 15 [(0, .ref (ad 0))] [] M (fX11_end_15 n0 M) := by
  unfold fX11_end_15
  refine b_aload_n hO dX11_end_15 0 rfl rfl ?_
  refine b_iconst hO dX11_end_16 ic_i_0 ?_
  refine b_callVI hO mdX11_refuse mvX11_refuse w671 (ci := 11) rfl rfl (by decide) kLX_0 (As := [.int _]) (st := []) (ctX11_refuse n0 hO.2.2.2.2.2.2.1 _ _) (Nat.le_of_ble_eq_true rfl) rfl rfl (Nat.le_of_ble_eq_true rfl) dX11_end_17 (fun z17 => ?_)
  refine b_pop hO dX11_end_20 rfl ?_
  refine b_iconst hO dX11_end_21 ic_i_0 ?_
  exact b_zretc hO (Or.inl rfl) dX11_end_22
theorem tfX11_end (n0 : Nat) (hO : OKc p (rmL 2) s m args meth c LX D cy ad cX11_end RX11 2 2 (some .boolean)) (x1 : Int32) (M : Mem) : BL p l e (rmL 2) s m args below meth c LX D cy ad 2 (QI LX D cy ad) 0 [(0, .ref (ad 0)), (1, .int x1)] [] M (fX11_end n0 x1 M) := by
  unfold fX11_end
  refine b_iload_n hO dX11_end_0 1 rfl rfl ?_
  refine b_if_lt hO dX11_end_1 (tgt := 15) (by decide) ?_ ?_
  · refine b_sub [0] rfl ?_
    exact tfX11_end_15 n0 hO _
  · refine b_iload_n hO dX11_end_4 1 rfl rfl ?_
    refine b_aload_n hO dX11_end_5 0 rfl rfl ?_
    refine b_get hO flX11_12 kLX_0 (v := .ref (ad 5)) rfl dX11_end_6 ?_
    refine b_get hO flX11_116 kLX_5 (v := .int (gI _ 641)) rfl dX11_end_9 ?_
    refine b_icmp_le hO dX11_end_12 (tgt := 23) (by decide) ?_ ?_
    · refine b_aload_n hO dX11_end_23 0 rfl rfl ?_
      refine b_get hO flX11_12 kLX_0 (v := .ref (ad 5)) rfl dX11_end_24 ?_
      refine b_iload_n hO dX11_end_27 1 rfl rfl ?_
      refine b_putI hO flX11_116 kLX_5 rfl rfl rfl (id := 641) rfl dX11_end_28 ?_
      refine b_bnd (fun M28 => ?_)
      refine b_iconst hO dX11_end_31 ic_i_1 ?_
      exact b_zretc hO (Or.inr rfl) dX11_end_32
    · refine b_sub [0] rfl ?_
      exact tfX11_end_15 n0 hO _
theorem ctX11_end (n0 : Nat) (hI : Inj LX ad) (x1 : Int32) (M : Mem) : CT l LX D cy ad yX11_end cX11_end 2 (some .boolean) 2 (QI LX D cy ad) [.ref (ad 0), .int x1] M (fX11_end n0 x1 M) :=
  CT.mk LXok hI (by decide) (Nat.le_of_ble_eq_true rfl) (fun hO => tfX11_end n0 hO x1 M)
/-! X11_begin -/
def fX11_begin (n0 : Nat) (M : Mem) : Option (Mem) :=
  bnd (sR M 896 (gR M 1)) fun M8 =>
  (fX6_begin n0 (gR M8 1) M8).bind fun z19 =>
  (fX6_doWhatIsDue n0 z19).bind fun z30 =>
  bnd (sI z30.2 2050 (0 : Int32)) fun M39 =>
  some (sI M39 2688 (0 : Int32))
theorem tfX11_begin (n0 : Nat) (hO : OKc p (rmL 7) s m args meth c LX D cy ad cX11_begin RX11 1 7 none) (M : Mem) : BL p l e (rmL 7) s m args below meth c LX D cy ad 1 (QV LX D cy ad) 0 [(0, .ref (ad 0))] [] M (fX11_begin n0 M) := by
  unfold fX11_begin
  refine b_aload_n hO dX11_begin_0 0 rfl rfl ?_
  refine b_get hO flX11_40 kLX_0 (v := .ref (ad 7)) rfl dX11_begin_1 ?_
  refine b_aload_n hO dX11_begin_4 0 rfl rfl ?_
  refine b_getR hO flX11_19 kLX_0 (id := 1) rfl rfl (rk := 9) rfl (by decide) dX11_begin_5 (fun hg1 => ?_)
  refine b_putR hO flX11_312 kLX_7 rfl (id := 896) rfl hg1 rfl rfl dX11_begin_8 ?_
  refine b_bnd (fun M8 => ?_)
  refine b_aload_n hO dX11_begin_11 0 rfl rfl ?_
  refine b_get hO flX11_47 kLX_0 (v := .ref (ad 10)) rfl dX11_begin_12 ?_
  refine b_aload_n hO dX11_begin_15 0 rfl rfl ?_
  refine b_getR hO flX11_19 kLX_0 (id := 1) rfl rfl (rk := 9) rfl (by decide) dX11_begin_16 (fun hg2 => ?_)
  refine b_callVV hO mdX6_begin mvX6_begin w544 (ci := 6) rfl rfl (by decide) kLX_10 (As := [.ref _]) (st := []) (ctX6_begin n0 _ hg2 hO.2.2.2.2.2.2.1 _) (Nat.le_of_ble_eq_true rfl) rfl rfl (Nat.le_of_ble_eq_true rfl) dX11_begin_19 (fun z19 => ?_)
  refine b_aload_n hO dX11_begin_22 0 rfl rfl ?_
  refine b_get hO flX11_47 kLX_0 (v := .ref (ad 10)) rfl dX11_begin_23 ?_
  refine b_aload_n hO dX11_begin_26 0 rfl rfl ?_
  refine b_get hO flX11_40 kLX_0 (v := .ref (ad 7)) rfl dX11_begin_27 ?_
  refine b_callVI hO mdX6_doWhatIsDue mvX6_doWhatIsDue w552 (ci := 6) rfl rfl (by decide) kLX_10 (As := [.ref _]) (st := []) (ctX6_doWhatIsDue n0 hO.2.2.2.2.2.2.1 _) (Nat.le_of_ble_eq_true rfl) rfl rfl (Nat.le_of_ble_eq_true rfl) dX11_begin_30 (fun z30 => ?_)
  refine b_pop hO dX11_begin_33 rfl ?_
  refine b_aload_n hO dX11_begin_34 0 rfl rfl ?_
  refine b_get hO flX11_54 kLX_0 (v := .ref (ad 16)) rfl dX11_begin_35 ?_
  refine b_iconst hO dX11_begin_38 ic_i_0 ?_
  refine b_putI hO flX11_164 kLX_16 rfl rfl rfl (id := 2050) rfl dX11_begin_39 ?_
  refine b_bnd (fun M39 => ?_)
  refine b_aload_n hO dX11_begin_42 0 rfl rfl ?_
  refine b_get hO flX11_68 kLX_0 (v := .ref (ad 21)) rfl dX11_begin_43 ?_
  refine b_iconst hO dX11_begin_46 ic_i_0 ?_
  refine b_putI hO flX11_161 kLX_21 rfl rfl rfl (id := 2688) rfl dX11_begin_47 ?_
  exact b_vret hO dX11_begin_50
theorem ctX11_begin (n0 : Nat) (hI : Inj LX ad) (M : Mem) : CT l LX D cy ad yX11_begin cX11_begin 1 none 7 (QV LX D cy ad) [.ref (ad 0)] M (fX11_begin n0 M) :=
  CT.mk LXok hI (by decide) (Nat.le_of_ble_eq_true rfl) (fun hO => tfX11_begin n0 hO M)
/-! X11_town -/
def fX11_town (n0 : Nat) (M : Mem) : Option (Int32 × Mem) :=
  (fX4_read n0 (gR M 2) M).bind fun z8 =>
  bnd (sI z8.2 641 (0 : Int32)) fun M17 =>
  bnd (sI M17 15 (gI M17 391)) fun M31 =>
  bnd (sI M31 16 (gI M31 392)) fun M45 =>
  if z8.1 = 0 then
    (fX11_refuse n0 (1 : Int32) M45).bind fun z54 =>
    some (z54.1, z54.2)
  else
    bnd (sR M45 1 (gR M45 2)) fun M68 =>
    bnd (sR M68 2 (gR M45 1)) fun M73 =>
    (fX11_begin n0 M73).bind fun z77 =>
    some ((gI z77 (128 * (gR z77 1) + 0)), z77)
theorem tfX11_town (n0 : Nat) (hO : OKc p (rmL 109) s m args meth c LX D cy ad cX11_town RX11 3 109 (some .int)) (M : Mem) : BL p l e (rmL 109) s m args below meth c LX D cy ad 3 (QI LX D cy ad) 0 [(0, .ref (ad 0))] [] M (fX11_town n0 M) := by
  unfold fX11_town
  refine b_aload_n hO dX11_town_0 0 rfl rfl ?_
  refine b_get hO flX11_31 kLX_0 (v := .ref (ad 1)) rfl dX11_town_1 ?_
  refine b_aload_n hO dX11_town_4 0 rfl rfl ?_
  refine b_getR hO flX11_23 kLX_0 (id := 2) rfl rfl (rk := 9) rfl (by decide) dX11_town_5 (fun hg1 => ?_)
  refine b_callVI hO mdX4_read mvX4_read w687 (ci := 4) rfl rfl (by decide) kLX_1 (As := [.ref _]) (st := []) (ctX4_read n0 _ hg1 hO.2.2.2.2.2.2.1 _) (Nat.le_of_ble_eq_true rfl) rfl rfl (Nat.le_of_ble_eq_true rfl) dX11_town_8 (fun z8 => ?_)
  refine b_istore_n hO dX11_town_11 rfl (by decide) (lv' := [(1, .int _), (0, .ref _)]) rfl ?_
  refine b_aload_n hO dX11_town_12 1 rfl rfl ?_
  refine b_get hO flX11_12 kLX_0 (v := .ref (ad 5)) rfl dX11_town_13 ?_
  refine b_iconst hO dX11_town_16 ic_i_0 ?_
  refine b_putI hO flX11_116 kLX_5 rfl rfl rfl (id := 641) rfl dX11_town_17 ?_
  refine b_bnd (fun M17 => ?_)
  refine b_aload_n hO dX11_town_20 1 rfl rfl ?_
  refine b_aload_n hO dX11_town_21 1 rfl rfl ?_
  refine b_get hO flX11_31 kLX_0 (v := .ref (ad 1)) rfl dX11_town_22 ?_
  refine b_get hO flX11_123 kLX_1 (v := .ref (ad 3)) rfl dX11_town_25 ?_
  refine b_get hO flX11_127 kLX_3 (v := .int (gI _ 391)) rfl dX11_town_28 ?_
  refine b_putI hO flX11_92 kLX_0 rfl rfl rfl (id := 15) rfl dX11_town_31 ?_
  refine b_bnd (fun M31 => ?_)
  refine b_aload_n hO dX11_town_34 1 rfl rfl ?_
  refine b_aload_n hO dX11_town_35 1 rfl rfl ?_
  refine b_get hO flX11_31 kLX_0 (v := .ref (ad 1)) rfl dX11_town_36 ?_
  refine b_get hO flX11_123 kLX_1 (v := .ref (ad 3)) rfl dX11_town_39 ?_
  refine b_get hO flX11_132 kLX_3 (v := .int (gI _ 392)) rfl dX11_town_42 ?_
  refine b_putI hO flX11_95 kLX_0 rfl rfl rfl (id := 16) rfl dX11_town_45 ?_
  refine b_bnd (fun M45 => ?_)
  refine b_iload_n hO dX11_town_48 0 rfl rfl ?_
  refine b_if_ne hO dX11_town_49 (tgt := 58) (by decide) ?_ ?_
  · refine b_aload_n hO dX11_town_58 1 rfl rfl ?_
    refine b_getR hO flX11_19 kLX_0 (id := 1) rfl rfl (rk := 9) rfl (by decide) dX11_town_59 (fun hg2 => ?_)
    refine b_astore_n hO dX11_town_62 rfl (by decide) (lv' := [(2, .ref _), (1, .int _), (0, .ref _)]) rfl ?_
    refine b_aload_n hO dX11_town_63 2 rfl rfl ?_
    refine b_aload_n hO dX11_town_64 2 rfl rfl ?_
    refine b_getR hO flX11_23 kLX_0 (id := 2) rfl rfl (rk := 9) rfl (by decide) dX11_town_65 (fun hg3 => ?_)
    refine b_putR hO flX11_19 kLX_0 rfl (id := 1) rfl hg3 rfl rfl dX11_town_68 ?_
    refine b_bnd (fun M68 => ?_)
    refine b_aload_n hO dX11_town_71 2 rfl rfl ?_
    refine b_aload_n hO dX11_town_72 0 rfl rfl ?_
    refine b_putR hO flX11_23 kLX_0 rfl (id := 2) rfl hg2 rfl rfl dX11_town_73 ?_
    refine b_bnd (fun M73 => ?_)
    refine b_aload_n hO dX11_town_76 2 rfl rfl ?_
    refine b_callVV hO mdX11_begin mvX11_begin w540 (ci := 11) rfl rfl (by decide) kLX_0 (As := []) (st := []) (ctX11_begin n0 hO.2.2.2.2.2.2.1 _) (Nat.le_of_ble_eq_true rfl) rfl rfl (Nat.le_of_ble_eq_true rfl) dX11_town_77 (fun z77 => ?_)
    refine b_aload_n hO dX11_town_80 2 rfl rfl ?_
    refine b_getR hO flX11_19 kLX_0 (id := 1) rfl rfl (rk := 9) rfl (by decide) dX11_town_81 (fun hg4 => ?_)
    refine b_get hO flX11_133 hg4 (v := .int (gI _ (128 * (gR z77 1) + 0))) rfl dX11_town_84 ?_
    exact b_iret hO dX11_town_87
  · refine b_aload_n hO dX11_town_52 1 rfl rfl ?_
    refine b_iconst hO dX11_town_53 ic_i_1 ?_
    refine b_callVI hO mdX11_refuse mvX11_refuse w671 (ci := 11) rfl rfl (by decide) kLX_0 (As := [.int _]) (st := []) (ctX11_refuse n0 hO.2.2.2.2.2.2.1 _ _) (Nat.le_of_ble_eq_true rfl) rfl rfl (Nat.le_of_ble_eq_true rfl) dX11_town_54 (fun z54 => ?_)
    exact b_iret hO dX11_town_57
theorem ctX11_town (n0 : Nat) (hI : Inj LX ad) (M : Mem) : CT l LX D cy ad yX11_town cX11_town 3 (some .int) 109 (QI LX D cy ad) [.ref (ad 0)] M (fX11_town n0 M) :=
  CT.mk LXok hI (by decide) (Nat.le_of_ble_eq_true rfl) (fun hO => tfX11_town n0 hO M)
/-! X11_fault -/
def fX11_fault (n0 : Nat) (x1 : Int32) (M : Mem) : Option (Int32 × Mem) :=
  if x1 = 0 then
    some ((gI M 15), M)
  else
  if x1 = 1 then
    some ((gI M 16), M)
  else
  some ((-1 : Int32), M)
theorem tfX11_fault (n0 : Nat) (hO : OKc p (rmL 1) s m args meth c LX D cy ad cX11_fault RX11 2 1 (some .int)) (x1 : Int32) (M : Mem) : BL p l e (rmL 1) s m args below meth c LX D cy ad 2 (QI LX D cy ad) 0 [(0, .ref (ad 0)), (1, .int x1)] [] M (fX11_fault n0 x1 M) := by
  unfold fX11_fault
  refine b_iload_n hO dX11_fault_0 1 rfl rfl ?_
  refine b_lookIn hO dX11_fault_1 (v := 0) (z := 0) (tgt := 28) (by decide) (by decide) rfl (by decide) ?_ (fun hn0 => ?_)
  · refine b_aload_n hO dX11_fault_28 0 rfl rfl ?_
    refine b_get hO flX11_92 kLX_0 (v := .int (gI _ 15)) rfl dX11_fault_29 ?_
    exact b_iret hO dX11_fault_32
  refine b_lookIn hO dX11_fault_1 (v := 1) (z := 1) (tgt := 33) (by decide) (by decide) rfl (by decide) ?_ (fun hn1 => ?_)
  · refine b_aload_n hO dX11_fault_33 0 rfl rfl ?_
    refine b_get hO flX11_95 kLX_0 (v := .int (gI _ 16)) rfl dX11_fault_34 ?_
    exact b_iret hO dX11_fault_37
  refine b_lookOut hO dX11_fault_1 (tgt := 38) (by decide) (by rw [lv_osw hn0 (by decide)]; rw [lv_osw hn1 (by decide)]; rfl) (by decide) ?_
  refine b_iconst hO dX11_fault_38 ic_i_m1 ?_
  exact b_iret hO dX11_fault_39
theorem ctX11_fault (n0 : Nat) (hI : Inj LX ad) (x1 : Int32) (M : Mem) : CT l LX D cy ad yX11_fault cX11_fault 2 (some .int) 1 (QI LX D cy ad) [.ref (ad 0), .int x1] M (fX11_fault n0 x1 M) :=
  CT.mk LXok hI (by decide) (Nat.le_of_ble_eq_true rfl) (fun hO => tfX11_fault n0 hO x1 M)
/-! X11_has -/
def fX11_has (n0 : Nat) (x1 : Int32) (M : Mem) : Option (Int32 × Mem) :=
  if x1 = 0 then
    some ((gI M (128 * (gR M 1) + 1)), M)
  else
  if x1 = 1 then
    some ((gI M (128 * (gR M 1) + 5)), M)
  else
  if x1 = 2 then
    some ((gI M (128 * (gR M 1) + 8)), M)
  else
  if x1 = 3 then
    some ((gI M (128 * (gR M 1) + 12)), M)
  else
  if x1 = 4 then
    some ((gI M 1281), M)
  else
  if x1 = 5 then
    (fX6_countDone n0 M).bind fun z104 =>
    some (z104.1, z104.2)
  else
  if x1 = 6 then
    (fX6_countEmpty n0 M).bind fun z112 =>
    some (z112.1, z112.2)
  else
  if x1 = 7 then
    some ((gI M 1285), M)
  else
  if x1 = 8 then
    some ((gI M 2688), M)
  else
  if x1 = 9 then
    some ((gI M 2050), M)
  else
  if x1 = 10 then
    some ((gI M 17), M)
  else
  some ((-1 : Int32), M)
theorem tfX11_has (n0 : Nat) (hO : OKc p (rmL 2) s m args meth c LX D cy ad cX11_has RX11 2 2 (some .int)) (x1 : Int32) (M : Mem) : BL p l e (rmL 2) s m args below meth c LX D cy ad 2 (QI LX D cy ad) 0 [(0, .ref (ad 0)), (1, .int x1)] [] M (fX11_has n0 x1 M) := by
  unfold fX11_has
  refine b_iload_n hO dX11_has_0 1 rfl rfl ?_
  refine b_tabIn hO dX11_has_1 (v := 0) (z := 0) (tgt := 60) (by decide) (by decide) (by decide) rfl (by decide) ?_ (fun hn0 => ?_)
  · refine b_aload_n hO dX11_has_60 0 rfl rfl ?_
    refine b_getR hO flX11_19 kLX_0 (id := 1) rfl rfl (rk := 9) rfl (by decide) dX11_has_61 (fun hg1 => ?_)
    refine b_get hO flX11_136 hg1 (v := .int (gI _ (128 * (gR M 1) + 1))) rfl dX11_has_64 ?_
    exact b_iret hO dX11_has_67
  refine b_tabIn hO dX11_has_1 (v := 1) (z := 1) (tgt := 68) (by decide) (by decide) (by decide) rfl (by decide) ?_ (fun hn1 => ?_)
  · refine b_aload_n hO dX11_has_68 0 rfl rfl ?_
    refine b_getR hO flX11_19 kLX_0 (id := 1) rfl rfl (rk := 9) rfl (by decide) dX11_has_69 (fun hg2 => ?_)
    refine b_get hO flX11_139 hg2 (v := .int (gI _ (128 * (gR M 1) + 5))) rfl dX11_has_72 ?_
    exact b_iret hO dX11_has_75
  refine b_tabIn hO dX11_has_1 (v := 2) (z := 2) (tgt := 76) (by decide) (by decide) (by decide) rfl (by decide) ?_ (fun hn2 => ?_)
  · refine b_aload_n hO dX11_has_76 0 rfl rfl ?_
    refine b_getR hO flX11_19 kLX_0 (id := 1) rfl rfl (rk := 9) rfl (by decide) dX11_has_77 (fun hg3 => ?_)
    refine b_get hO flX11_142 hg3 (v := .int (gI _ (128 * (gR M 1) + 8))) rfl dX11_has_80 ?_
    exact b_iret hO dX11_has_83
  refine b_tabIn hO dX11_has_1 (v := 3) (z := 3) (tgt := 84) (by decide) (by decide) (by decide) rfl (by decide) ?_ (fun hn3 => ?_)
  · refine b_aload_n hO dX11_has_84 0 rfl rfl ?_
    refine b_getR hO flX11_19 kLX_0 (id := 1) rfl rfl (rk := 9) rfl (by decide) dX11_has_85 (fun hg4 => ?_)
    refine b_get hO flX11_145 hg4 (v := .int (gI _ (128 * (gR M 1) + 12))) rfl dX11_has_88 ?_
    exact b_iret hO dX11_has_91
  refine b_tabIn hO dX11_has_1 (v := 4) (z := 4) (tgt := 92) (by decide) (by decide) (by decide) rfl (by decide) ?_ (fun hn4 => ?_)
  · refine b_aload_n hO dX11_has_92 0 rfl rfl ?_
    refine b_get hO flX11_47 kLX_0 (v := .ref (ad 10)) rfl dX11_has_93 ?_
    refine b_get hO flX11_148 kLX_10 (v := .int (gI _ 1281)) rfl dX11_has_96 ?_
    exact b_iret hO dX11_has_99
  refine b_tabIn hO dX11_has_1 (v := 5) (z := 5) (tgt := 100) (by decide) (by decide) (by decide) rfl (by decide) ?_ (fun hn5 => ?_)
  · refine b_aload_n hO dX11_has_100 0 rfl rfl ?_
    refine b_get hO flX11_47 kLX_0 (v := .ref (ad 10)) rfl dX11_has_101 ?_
    refine b_callVI hO mdX6_countDone mvX6_countDone w912 (ci := 6) rfl rfl (by decide) kLX_10 (As := []) (st := []) (ctX6_countDone n0 hO.2.2.2.2.2.2.1 _) (Nat.le_of_ble_eq_true rfl) rfl rfl (Nat.le_of_ble_eq_true rfl) dX11_has_104 (fun z104 => ?_)
    exact b_iret hO dX11_has_107
  refine b_tabIn hO dX11_has_1 (v := 6) (z := 6) (tgt := 108) (by decide) (by decide) (by decide) rfl (by decide) ?_ (fun hn6 => ?_)
  · refine b_aload_n hO dX11_has_108 0 rfl rfl ?_
    refine b_get hO flX11_47 kLX_0 (v := .ref (ad 10)) rfl dX11_has_109 ?_
    refine b_callVI hO mdX6_countEmpty mvX6_countEmpty w916 (ci := 6) rfl rfl (by decide) kLX_10 (As := []) (st := []) (ctX6_countEmpty n0 hO.2.2.2.2.2.2.1 _) (Nat.le_of_ble_eq_true rfl) rfl rfl (Nat.le_of_ble_eq_true rfl) dX11_has_112 (fun z112 => ?_)
    exact b_iret hO dX11_has_115
  refine b_tabIn hO dX11_has_1 (v := 7) (z := 7) (tgt := 116) (by decide) (by decide) (by decide) rfl (by decide) ?_ (fun hn7 => ?_)
  · refine b_aload_n hO dX11_has_116 0 rfl rfl ?_
    refine b_get hO flX11_47 kLX_0 (v := .ref (ad 10)) rfl dX11_has_117 ?_
    refine b_get hO flX11_158 kLX_10 (v := .int (gI _ 1285)) rfl dX11_has_120 ?_
    exact b_iret hO dX11_has_123
  refine b_tabIn hO dX11_has_1 (v := 8) (z := 8) (tgt := 124) (by decide) (by decide) (by decide) rfl (by decide) ?_ (fun hn8 => ?_)
  · refine b_aload_n hO dX11_has_124 0 rfl rfl ?_
    refine b_get hO flX11_68 kLX_0 (v := .ref (ad 21)) rfl dX11_has_125 ?_
    refine b_get hO flX11_161 kLX_21 (v := .int (gI _ 2688)) rfl dX11_has_128 ?_
    exact b_iret hO dX11_has_131
  refine b_tabIn hO dX11_has_1 (v := 9) (z := 9) (tgt := 132) (by decide) (by decide) (by decide) rfl (by decide) ?_ (fun hn9 => ?_)
  · refine b_aload_n hO dX11_has_132 0 rfl rfl ?_
    refine b_get hO flX11_54 kLX_0 (v := .ref (ad 16)) rfl dX11_has_133 ?_
    refine b_get hO flX11_164 kLX_16 (v := .int (gI _ 2050)) rfl dX11_has_136 ?_
    exact b_iret hO dX11_has_139
  refine b_tabIn hO dX11_has_1 (v := 10) (z := 10) (tgt := 140) (by decide) (by decide) (by decide) rfl (by decide) ?_ (fun hn10 => ?_)
  · refine b_aload_n hO dX11_has_140 0 rfl rfl ?_
    refine b_get hO flX11_98 kLX_0 (v := .int (gI _ 17)) rfl dX11_has_141 ?_
    exact b_iret hO dX11_has_144
  refine b_tabOut hO dX11_has_1 (tgt := 145) (by omega) (by decide) ?_
  refine b_iconst hO dX11_has_145 ic_i_m1 ?_
  exact b_iret hO dX11_has_146
theorem ctX11_has (n0 : Nat) (hI : Inj LX ad) (x1 : Int32) (M : Mem) : CT l LX D cy ad yX11_has cX11_has 2 (some .int) 2 (QI LX D cy ad) [.ref (ad 0), .int x1] M (fX11_has n0 x1 M) :=
  CT.mk LXok hI (by decide) (Nat.le_of_ble_eq_true rfl) (fun hO => tfX11_has n0 hO x1 M)
/-! X11_letter -/
def fX11_letter (n0 : Nat) (x1 : Int32) (x2 : Int32) (x3 : Int32) (M : Mem) : Option (Int32 × Mem) :=
  if x3 < 0 then
    some ((-1 : Int32), M)
  else
    if x3 < (6 : Int32) then
      if x1 = 0 then
        (fX9_isThing n0 (gR M 1) x2 M).bind fun z45 =>
        if z45.1 = 0 then
          some ((-1 : Int32), z45.2)
        else
          if oob x2 6 then none else
          (fX8_letterOf n0 (gA z45.2 ((gR z45.2 1) + 1) (Int32.toNatClampNeg x2)) x3 z45.2).bind fun z61 =>
          some (z61.1, z61.2)
      else
      if x1 = 1 then
        (fX9_isCorner n0 (gR M 1) x2 M).bind fun z74 =>
        if z74.1 = 0 then
          some ((-1 : Int32), z74.2)
        else
          if oob x2 5 then none else
          (fX8_letterOf n0 (gA z74.2 ((gR z74.2 1) + 4) (Int32.toNatClampNeg x2)) x3 z74.2).bind fun z90 =>
          some (z90.1, z90.2)
      else
      if x1 = 2 then
        (fX9_isDoing n0 (gR M 1) x2 M).bind fun z103 =>
        if z103.1 = 0 then
          some ((-1 : Int32), z103.2)
        else
          if oob x2 6 then none else
          (fX8_letterOf n0 (gA z103.2 ((gR z103.2 1) + 9) (Int32.toNatClampNeg x2)) x3 z103.2).bind fun z119 =>
          some (z119.1, z119.2)
      else
      some ((-1 : Int32), M)
    else
      some ((-1 : Int32), M)
theorem tfX11_letter (n0 : Nat) (hO : OKc p (rmL 2) s m args meth c LX D cy ad cX11_letter RX11 4 2 (some .int)) (x1 : Int32) (x2 : Int32) (x3 : Int32) (M : Mem) : BL p l e (rmL 2) s m args below meth c LX D cy ad 4 (QI LX D cy ad) 0 [(0, .ref (ad 0)), (1, .int x1), (2, .int x2), (3, .int x3)] [] M (fX11_letter n0 x1 x2 x3 M) := by
  unfold fX11_letter
  refine b_iload_n hO dX11_letter_0 3 rfl rfl ?_
  refine b_if_lt hO dX11_letter_1 (tgt := 10) (by decide) ?_ ?_
  · refine b_iconst hO dX11_letter_10 ic_i_m1 ?_
    exact b_iret hO dX11_letter_11
  · refine b_iload_n hO dX11_letter_4 3 rfl rfl ?_
    refine b_bipush hO dX11_letter_5 ic_b_6 ?_
    refine b_icmp_lt hO dX11_letter_7 (tgt := 12) (by decide) ?_ ?_
    · refine b_iload_n hO dX11_letter_12 1 rfl rfl ?_
      refine b_tabIn hO dX11_letter_13 (v := 0) (z := 0) (tgt := 40) (by decide) (by decide) (by decide) rfl (by decide) ?_ (fun hn0 => ?_)
      · refine b_aload_n hO dX11_letter_40 0 rfl rfl ?_
        refine b_getR hO flX11_19 kLX_0 (id := 1) rfl rfl (rk := 9) rfl (by decide) dX11_letter_41 (fun hg1 => ?_)
        refine b_iload_n hO dX11_letter_44 2 rfl rfl ?_
        refine b_callVI hO mdX9_isThing mvX9_isThing w924 (ci := 9) rfl rfl (by decide) hg1 (As := [.int _]) (st := []) (ctX9_isThing n0 _ hg1 hO.2.2.2.2.2.2.1 _ _) (Nat.le_of_ble_eq_true rfl) rfl rfl (Nat.le_of_ble_eq_true rfl) dX11_letter_45 (fun z45 => ?_)
        refine b_if_eq hO dX11_letter_48 (tgt := 67) (by decide) ?_ ?_
        · refine b_iconst hO dX11_letter_67 ic_i_m1 ?_
          exact b_iret hO dX11_letter_68
        · refine b_aload_n hO dX11_letter_51 0 rfl rfl ?_
          refine b_getR hO flX11_19 kLX_0 (id := 1) rfl rfl (rk := 9) rfl (by decide) dX11_letter_52 (fun hg2 => ?_)
          refine b_get hO flX11_168 hg2 (v := .ref (ad ((gR z45.2 1) + 1))) rfl dX11_letter_55 ?_
          refine b_iload_n hO dX11_letter_58 2 rfl rfl ?_
          refine b_iald hO (kt_9_1 hg2) (n := 6) (lt_9_1 hg2) dX11_letter_59 ?_
          refine b_iload_n hO dX11_letter_60 3 rfl rfl ?_
          refine b_callSI hO mdX8_letterOf w926 w925 (As := [.int _, .int _]) (st := []) (ctX8_letterOf n0 hO.2.2.2.2.2.2.1 _ _ _) (Nat.le_of_ble_eq_true rfl) rfl rfl (Nat.le_of_ble_eq_true rfl) dX11_letter_61 (fun z61 => ?_)
          refine b_goto hO dX11_letter_64 (tgt := 68) (by decide) ?_
          exact b_iret hO dX11_letter_68
      refine b_tabIn hO dX11_letter_13 (v := 1) (z := 1) (tgt := 69) (by decide) (by decide) (by decide) rfl (by decide) ?_ (fun hn1 => ?_)
      · refine b_aload_n hO dX11_letter_69 0 rfl rfl ?_
        refine b_getR hO flX11_19 kLX_0 (id := 1) rfl rfl (rk := 9) rfl (by decide) dX11_letter_70 (fun hg3 => ?_)
        refine b_iload_n hO dX11_letter_73 2 rfl rfl ?_
        refine b_callVI hO mdX9_isCorner mvX9_isCorner w928 (ci := 9) rfl rfl (by decide) hg3 (As := [.int _]) (st := []) (ctX9_isCorner n0 _ hg3 hO.2.2.2.2.2.2.1 _ _) (Nat.le_of_ble_eq_true rfl) rfl rfl (Nat.le_of_ble_eq_true rfl) dX11_letter_74 (fun z74 => ?_)
        refine b_if_eq hO dX11_letter_77 (tgt := 96) (by decide) ?_ ?_
        · refine b_iconst hO dX11_letter_96 ic_i_m1 ?_
          exact b_iret hO dX11_letter_97
        · refine b_aload_n hO dX11_letter_80 0 rfl rfl ?_
          refine b_getR hO flX11_19 kLX_0 (id := 1) rfl rfl (rk := 9) rfl (by decide) dX11_letter_81 (fun hg4 => ?_)
          refine b_get hO flX11_178 hg4 (v := .ref (ad ((gR z74.2 1) + 4))) rfl dX11_letter_84 ?_
          refine b_iload_n hO dX11_letter_87 2 rfl rfl ?_
          refine b_iald hO (kt_9_4 hg4) (n := 5) (lt_9_4 hg4) dX11_letter_88 ?_
          refine b_iload_n hO dX11_letter_89 3 rfl rfl ?_
          refine b_callSI hO mdX8_letterOf w926 w925 (As := [.int _, .int _]) (st := []) (ctX8_letterOf n0 hO.2.2.2.2.2.2.1 _ _ _) (Nat.le_of_ble_eq_true rfl) rfl rfl (Nat.le_of_ble_eq_true rfl) dX11_letter_90 (fun z90 => ?_)
          refine b_goto hO dX11_letter_93 (tgt := 97) (by decide) ?_
          exact b_iret hO dX11_letter_97
      refine b_tabIn hO dX11_letter_13 (v := 2) (z := 2) (tgt := 98) (by decide) (by decide) (by decide) rfl (by decide) ?_ (fun hn2 => ?_)
      · refine b_aload_n hO dX11_letter_98 0 rfl rfl ?_
        refine b_getR hO flX11_19 kLX_0 (id := 1) rfl rfl (rk := 9) rfl (by decide) dX11_letter_99 (fun hg5 => ?_)
        refine b_iload_n hO dX11_letter_102 2 rfl rfl ?_
        refine b_callVI hO mdX9_isDoing mvX9_isDoing w932 (ci := 9) rfl rfl (by decide) hg5 (As := [.int _]) (st := []) (ctX9_isDoing n0 _ hg5 hO.2.2.2.2.2.2.1 _ _) (Nat.le_of_ble_eq_true rfl) rfl rfl (Nat.le_of_ble_eq_true rfl) dX11_letter_103 (fun z103 => ?_)
        refine b_if_eq hO dX11_letter_106 (tgt := 125) (by decide) ?_ ?_
        · refine b_iconst hO dX11_letter_125 ic_i_m1 ?_
          exact b_iret hO dX11_letter_126
        · refine b_aload_n hO dX11_letter_109 0 rfl rfl ?_
          refine b_getR hO flX11_19 kLX_0 (id := 1) rfl rfl (rk := 9) rfl (by decide) dX11_letter_110 (fun hg6 => ?_)
          refine b_get hO flX11_184 hg6 (v := .ref (ad ((gR z103.2 1) + 9))) rfl dX11_letter_113 ?_
          refine b_iload_n hO dX11_letter_116 2 rfl rfl ?_
          refine b_iald hO (kt_9_9 hg6) (n := 6) (lt_9_9 hg6) dX11_letter_117 ?_
          refine b_iload_n hO dX11_letter_118 3 rfl rfl ?_
          refine b_callSI hO mdX8_letterOf w926 w925 (As := [.int _, .int _]) (st := []) (ctX8_letterOf n0 hO.2.2.2.2.2.2.1 _ _ _) (Nat.le_of_ble_eq_true rfl) rfl rfl (Nat.le_of_ble_eq_true rfl) dX11_letter_119 (fun z119 => ?_)
          refine b_goto hO dX11_letter_122 (tgt := 126) (by decide) ?_
          exact b_iret hO dX11_letter_126
      refine b_tabOut hO dX11_letter_13 (tgt := 127) (by omega) (by decide) ?_
      refine b_iconst hO dX11_letter_127 ic_i_m1 ?_
      exact b_iret hO dX11_letter_128
    · refine b_iconst hO dX11_letter_10 ic_i_m1 ?_
      exact b_iret hO dX11_letter_11
theorem ctX11_letter (n0 : Nat) (hI : Inj LX ad) (x1 : Int32) (x2 : Int32) (x3 : Int32) (M : Mem) : CT l LX D cy ad yX11_letter cX11_letter 4 (some .int) 2 (QI LX D cy ad) [.ref (ad 0), .int x1, .int x2, .int x3] M (fX11_letter n0 x1 x2 x3 M) :=
  CT.mk LXok hI (by decide) (Nat.le_of_ble_eq_true rfl) (fun hO => tfX11_letter n0 hO x1 x2 x3 M)
/-! X11_thing -/
def fX11_thing (n0 : Nat) (x1 : Int32) (x2 : Int32) (M : Mem) : Option (Int32 × Mem) :=
  (fX9_isThing n0 (gR M 1) x1 M).bind fun z5 =>
  if z5.1 = 0 then
    some ((-1 : Int32), z5.2)
  else
    if x2 = 0 then
      if oob x1 6 then none else
      some ((gA z5.2 ((gR z5.2 1) + 2) (Int32.toNatClampNeg x1)), z5.2)
    else
    if x2 = 1 then
      if oob x1 6 then none else
      some ((gA z5.2 ((gR z5.2 1) + 3) (Int32.toNatClampNeg x1)), z5.2)
    else
    some ((-1 : Int32), z5.2)
theorem tfX11_thing (n0 : Nat) (hO : OKc p (rmL 2) s m args meth c LX D cy ad cX11_thing RX11 3 2 (some .int)) (x1 : Int32) (x2 : Int32) (M : Mem) : BL p l e (rmL 2) s m args below meth c LX D cy ad 3 (QI LX D cy ad) 0 [(0, .ref (ad 0)), (1, .int x1), (2, .int x2)] [] M (fX11_thing n0 x1 x2 M) := by
  unfold fX11_thing
  refine b_aload_n hO dX11_thing_0 0 rfl rfl ?_
  refine b_getR hO flX11_19 kLX_0 (id := 1) rfl rfl (rk := 9) rfl (by decide) dX11_thing_1 (fun hg1 => ?_)
  refine b_iload_n hO dX11_thing_4 1 rfl rfl ?_
  refine b_callVI hO mdX9_isThing mvX9_isThing w924 (ci := 9) rfl rfl (by decide) hg1 (As := [.int _]) (st := []) (ctX9_isThing n0 _ hg1 hO.2.2.2.2.2.2.1 _ _) (Nat.le_of_ble_eq_true rfl) rfl rfl (Nat.le_of_ble_eq_true rfl) dX11_thing_5 (fun z5 => ?_)
  refine b_if_ne hO dX11_thing_8 (tgt := 13) (by decide) ?_ ?_
  · refine b_iload_n hO dX11_thing_13 2 rfl rfl ?_
    refine b_lookIn hO dX11_thing_14 (v := 0) (z := 0) (tgt := 40) (by decide) (by decide) rfl (by decide) ?_ (fun hn0 => ?_)
    · refine b_aload_n hO dX11_thing_40 0 rfl rfl ?_
      refine b_getR hO flX11_19 kLX_0 (id := 1) rfl rfl (rk := 9) rfl (by decide) dX11_thing_41 (fun hg2 => ?_)
      refine b_get hO flX11_187 hg2 (v := .ref (ad ((gR z5.2 1) + 2))) rfl dX11_thing_44 ?_
      refine b_iload_n hO dX11_thing_47 1 rfl rfl ?_
      refine b_iald hO (kt_9_2 hg2) (n := 6) (lt_9_2 hg2) dX11_thing_48 ?_
      exact b_iret hO dX11_thing_49
    refine b_lookIn hO dX11_thing_14 (v := 1) (z := 1) (tgt := 50) (by decide) (by decide) rfl (by decide) ?_ (fun hn1 => ?_)
    · refine b_aload_n hO dX11_thing_50 0 rfl rfl ?_
      refine b_getR hO flX11_19 kLX_0 (id := 1) rfl rfl (rk := 9) rfl (by decide) dX11_thing_51 (fun hg3 => ?_)
      refine b_get hO flX11_190 hg3 (v := .ref (ad ((gR z5.2 1) + 3))) rfl dX11_thing_54 ?_
      refine b_iload_n hO dX11_thing_57 1 rfl rfl ?_
      refine b_iald hO (kt_9_3 hg3) (n := 6) (lt_9_3 hg3) dX11_thing_58 ?_
      exact b_iret hO dX11_thing_59
    refine b_lookOut hO dX11_thing_14 (tgt := 60) (by decide) (by rw [lv_osw hn0 (by decide)]; rw [lv_osw hn1 (by decide)]; rfl) (by decide) ?_
    refine b_iconst hO dX11_thing_60 ic_i_m1 ?_
    exact b_iret hO dX11_thing_61
  · refine b_iconst hO dX11_thing_11 ic_i_m1 ?_
    exact b_iret hO dX11_thing_12
theorem ctX11_thing (n0 : Nat) (hI : Inj LX ad) (x1 : Int32) (x2 : Int32) (M : Mem) : CT l LX D cy ad yX11_thing cX11_thing 3 (some .int) 2 (QI LX D cy ad) [.ref (ad 0), .int x1, .int x2] M (fX11_thing n0 x1 x2 M) :=
  CT.mk LXok hI (by decide) (Nat.le_of_ble_eq_true rfl) (fun hO => tfX11_thing n0 hO x1 x2 M)
/-! X11_lookAt -/
def fX11_lookAt (n0 : Nat) (x1 : Int32) (M : Mem) : Option (Mem) :=
  if oob x1 5 then none else
  if oob x1 5 then none else
  (fX1_hold n0 x1 (gA M 11 (Int32.toNatClampNeg x1)) (gA M 12 (Int32.toNatClampNeg x1)) (gI M 1281) M).bind fun z30 =>
  some z30
theorem tfX11_lookAt (n0 : Nat) (hO : OKc p (rmL 2) s m args meth c LX D cy ad cX11_lookAt RX11 2 2 none) (x1 : Int32) (M : Mem) : BL p l e (rmL 2) s m args below meth c LX D cy ad 2 (QV LX D cy ad) 0 [(0, .ref (ad 0)), (1, .int x1)] [] M (fX11_lookAt n0 x1 M) := by
  unfold fX11_lookAt
  refine b_aload_n hO dX11_lookAt_0 0 rfl rfl ?_
  refine b_get hO flX11_40 kLX_0 (v := .ref (ad 7)) rfl dX11_lookAt_1 ?_
  refine b_iload_n hO dX11_lookAt_4 1 rfl rfl ?_
  refine b_aload_n hO dX11_lookAt_5 0 rfl rfl ?_
  refine b_get hO flX11_47 kLX_0 (v := .ref (ad 10)) rfl dX11_lookAt_6 ?_
  refine b_get hO flX11_193 kLX_10 (v := .ref (ad 11)) rfl dX11_lookAt_9 ?_
  refine b_iload_n hO dX11_lookAt_12 1 rfl rfl ?_
  refine b_iald hO kLX_11 (n := 5) rfl dX11_lookAt_13 ?_
  refine b_aload_n hO dX11_lookAt_14 0 rfl rfl ?_
  refine b_get hO flX11_47 kLX_0 (v := .ref (ad 10)) rfl dX11_lookAt_15 ?_
  refine b_get hO flX11_195 kLX_10 (v := .ref (ad 12)) rfl dX11_lookAt_18 ?_
  refine b_iload_n hO dX11_lookAt_21 1 rfl rfl ?_
  refine b_iald hO kLX_12 (n := 5) rfl dX11_lookAt_22 ?_
  refine b_aload_n hO dX11_lookAt_23 0 rfl rfl ?_
  refine b_get hO flX11_47 kLX_0 (v := .ref (ad 10)) rfl dX11_lookAt_24 ?_
  refine b_get hO flX11_148 kLX_10 (v := .int (gI _ 1281)) rfl dX11_lookAt_27 ?_
  refine b_callVV hO mdX1_hold mvX1_hold w952 (ci := 1) rfl rfl (by decide) kLX_7 (As := [.int _, .int _, .int _, .int _]) (st := []) (ctX1_hold n0 hO.2.2.2.2.2.2.1 _ _ _ _ _) (Nat.le_of_ble_eq_true rfl) rfl rfl (Nat.le_of_ble_eq_true rfl) dX11_lookAt_30 (fun z30 => ?_)
  exact b_vret hO dX11_lookAt_33
theorem ctX11_lookAt (n0 : Nat) (hI : Inj LX ad) (x1 : Int32) (M : Mem) : CT l LX D cy ad yX11_lookAt cX11_lookAt 2 none 2 (QV LX D cy ad) [.ref (ad 0), .int x1] M (fX11_lookAt n0 x1 M) :=
  CT.mk LXok hI (by decide) (Nat.le_of_ble_eq_true rfl) (fun hO => tfX11_lookAt n0 hO x1 M)
/-! X11_hourAt -/
def fX11_hourAt (n0 : Nat) (x1 : Int32) (M : Mem) : Option (Int32 × Mem) :=
  (fX11_lookAt n0 x1 M).bind fun z2 =>
  (fX1_hourNow n0 z2).bind fun z9 =>
  some (z9.1, z9.2)
theorem tfX11_hourAt (n0 : Nat) (hO : OKc p (rmL 5) s m args meth c LX D cy ad cX11_hourAt RX11 2 5 (some .int)) (x1 : Int32) (M : Mem) : BL p l e (rmL 5) s m args below meth c LX D cy ad 2 (QI LX D cy ad) 0 [(0, .ref (ad 0)), (1, .int x1)] [] M (fX11_hourAt n0 x1 M) := by
  unfold fX11_hourAt
  refine b_aload_n hO dX11_hourAt_0 0 rfl rfl ?_
  refine b_iload_n hO dX11_hourAt_1 1 rfl rfl ?_
  refine b_callVV hO mdX11_lookAt mvX11_lookAt w948 (ci := 11) rfl rfl (by decide) kLX_0 (As := [.int _]) (st := []) (ctX11_lookAt n0 hO.2.2.2.2.2.2.1 _ _) (Nat.le_of_ble_eq_true rfl) rfl rfl (Nat.le_of_ble_eq_true rfl) dX11_hourAt_2 (fun z2 => ?_)
  refine b_aload_n hO dX11_hourAt_5 0 rfl rfl ?_
  refine b_get hO flX11_40 kLX_0 (v := .ref (ad 7)) rfl dX11_hourAt_6 ?_
  refine b_callVI hO mdX1_hourNow mvX1_hourNow w953 (ci := 1) rfl rfl (by decide) kLX_7 (As := []) (st := []) (ctX1_hourNow n0 hO.2.2.2.2.2.2.1 _) (Nat.le_of_ble_eq_true rfl) rfl rfl (Nat.le_of_ble_eq_true rfl) dX11_hourAt_9 (fun z9 => ?_)
  exact b_iret hO dX11_hourAt_12
theorem ctX11_hourAt (n0 : Nat) (hI : Inj LX ad) (x1 : Int32) (M : Mem) : CT l LX D cy ad yX11_hourAt cX11_hourAt 2 (some .int) 5 (QI LX D cy ad) [.ref (ad 0), .int x1] M (fX11_hourAt n0 x1 M) :=
  CT.mk LXok hI (by decide) (Nat.le_of_ble_eq_true rfl) (fun hO => tfX11_hourAt n0 hO x1 M)
/-! X11_corner -/
def fX11_corner (n0 : Nat) (x1 : Int32) (x2 : Int32) (M : Mem) : Option (Int32 × Mem) :=
  (fX9_isCorner n0 (gR M 1) x1 M).bind fun z5 =>
  if z5.1 = 0 then
    some ((-1 : Int32), z5.2)
  else
    if x2 = 0 then
      if oob x1 5 then none else
      some ((gA z5.2 11 (Int32.toNatClampNeg x1)), z5.2)
    else
    if x2 = 1 then
      if oob x1 5 then none else
      some ((gA z5.2 12 (Int32.toNatClampNeg x1)), z5.2)
    else
    if x2 = 2 then
      (fX11_hourAt n0 x1 z5.2).bind fun z62 =>
      some (z62.1, z62.2)
    else
    some ((-1 : Int32), z5.2)
theorem tfX11_corner (n0 : Nat) (hO : OKc p (rmL 6) s m args meth c LX D cy ad cX11_corner RX11 3 6 (some .int)) (x1 : Int32) (x2 : Int32) (M : Mem) : BL p l e (rmL 6) s m args below meth c LX D cy ad 3 (QI LX D cy ad) 0 [(0, .ref (ad 0)), (1, .int x1), (2, .int x2)] [] M (fX11_corner n0 x1 x2 M) := by
  unfold fX11_corner
  refine b_aload_n hO dX11_corner_0 0 rfl rfl ?_
  refine b_getR hO flX11_19 kLX_0 (id := 1) rfl rfl (rk := 9) rfl (by decide) dX11_corner_1 (fun hg1 => ?_)
  refine b_iload_n hO dX11_corner_4 1 rfl rfl ?_
  refine b_callVI hO mdX9_isCorner mvX9_isCorner w928 (ci := 9) rfl rfl (by decide) hg1 (As := [.int _]) (st := []) (ctX9_isCorner n0 _ hg1 hO.2.2.2.2.2.2.1 _ _) (Nat.le_of_ble_eq_true rfl) rfl rfl (Nat.le_of_ble_eq_true rfl) dX11_corner_5 (fun z5 => ?_)
  refine b_if_ne hO dX11_corner_8 (tgt := 13) (by decide) ?_ ?_
  · refine b_iload_n hO dX11_corner_13 2 rfl rfl ?_
    refine b_tabIn hO dX11_corner_14 (v := 0) (z := 0) (tgt := 40) (by decide) (by decide) (by decide) rfl (by decide) ?_ (fun hn0 => ?_)
    · refine b_aload_n hO dX11_corner_40 0 rfl rfl ?_
      refine b_get hO flX11_47 kLX_0 (v := .ref (ad 10)) rfl dX11_corner_41 ?_
      refine b_get hO flX11_193 kLX_10 (v := .ref (ad 11)) rfl dX11_corner_44 ?_
      refine b_iload_n hO dX11_corner_47 1 rfl rfl ?_
      refine b_iald hO kLX_11 (n := 5) rfl dX11_corner_48 ?_
      exact b_iret hO dX11_corner_49
    refine b_tabIn hO dX11_corner_14 (v := 1) (z := 1) (tgt := 50) (by decide) (by decide) (by decide) rfl (by decide) ?_ (fun hn1 => ?_)
    · refine b_aload_n hO dX11_corner_50 0 rfl rfl ?_
      refine b_get hO flX11_47 kLX_0 (v := .ref (ad 10)) rfl dX11_corner_51 ?_
      refine b_get hO flX11_195 kLX_10 (v := .ref (ad 12)) rfl dX11_corner_54 ?_
      refine b_iload_n hO dX11_corner_57 1 rfl rfl ?_
      refine b_iald hO kLX_12 (n := 5) rfl dX11_corner_58 ?_
      exact b_iret hO dX11_corner_59
    refine b_tabIn hO dX11_corner_14 (v := 2) (z := 2) (tgt := 60) (by decide) (by decide) (by decide) rfl (by decide) ?_ (fun hn2 => ?_)
    · refine b_aload_n hO dX11_corner_60 0 rfl rfl ?_
      refine b_iload_n hO dX11_corner_61 1 rfl rfl ?_
      refine b_callVI hO mdX11_hourAt mvX11_hourAt w944 (ci := 11) rfl rfl (by decide) kLX_0 (As := [.int _]) (st := []) (ctX11_hourAt n0 hO.2.2.2.2.2.2.1 _ _) (Nat.le_of_ble_eq_true rfl) rfl rfl (Nat.le_of_ble_eq_true rfl) dX11_corner_62 (fun z62 => ?_)
      exact b_iret hO dX11_corner_65
    refine b_tabOut hO dX11_corner_14 (tgt := 66) (by omega) (by decide) ?_
    refine b_iconst hO dX11_corner_66 ic_i_m1 ?_
    exact b_iret hO dX11_corner_67
  · refine b_iconst hO dX11_corner_11 ic_i_m1 ?_
    exact b_iret hO dX11_corner_12
theorem ctX11_corner (n0 : Nat) (hI : Inj LX ad) (x1 : Int32) (x2 : Int32) (M : Mem) : CT l LX D cy ad yX11_corner cX11_corner 3 (some .int) 6 (QI LX D cy ad) [.ref (ad 0), .int x1, .int x2] M (fX11_corner n0 x1 x2 M) :=
  CT.mk LXok hI (by decide) (Nat.le_of_ble_eq_true rfl) (fun hO => tfX11_corner n0 hO x1 x2 M)
/-! X11_doing -/
def fX11_doing (n0 : Nat) (x1 : Int32) (x2 : Int32) (M : Mem) : Option (Int32 × Mem) :=
  (fX9_isDoing n0 (gR M 1) x1 M).bind fun z5 =>
  if z5.1 = 0 then
    some ((-1 : Int32), z5.2)
  else
    if x2 = 0 then
      if oob x1 6 then none else
      some ((gA z5.2 ((gR z5.2 1) + 10) (Int32.toNatClampNeg x1)), z5.2)
    else
    if x2 = 1 then
      if oob x1 6 then none else
      some ((gA z5.2 ((gR z5.2 1) + 11) (Int32.toNatClampNeg x1)), z5.2)
    else
    if x2 = 2 then
      if oob x1 6 then none else
      some ((gA z5.2 13 (Int32.toNatClampNeg x1)), z5.2)
    else
    some ((-1 : Int32), z5.2)
theorem tfX11_doing (n0 : Nat) (hO : OKc p (rmL 2) s m args meth c LX D cy ad cX11_doing RX11 3 2 (some .int)) (x1 : Int32) (x2 : Int32) (M : Mem) : BL p l e (rmL 2) s m args below meth c LX D cy ad 3 (QI LX D cy ad) 0 [(0, .ref (ad 0)), (1, .int x1), (2, .int x2)] [] M (fX11_doing n0 x1 x2 M) := by
  unfold fX11_doing
  refine b_aload_n hO dX11_doing_0 0 rfl rfl ?_
  refine b_getR hO flX11_19 kLX_0 (id := 1) rfl rfl (rk := 9) rfl (by decide) dX11_doing_1 (fun hg1 => ?_)
  refine b_iload_n hO dX11_doing_4 1 rfl rfl ?_
  refine b_callVI hO mdX9_isDoing mvX9_isDoing w932 (ci := 9) rfl rfl (by decide) hg1 (As := [.int _]) (st := []) (ctX9_isDoing n0 _ hg1 hO.2.2.2.2.2.2.1 _ _) (Nat.le_of_ble_eq_true rfl) rfl rfl (Nat.le_of_ble_eq_true rfl) dX11_doing_5 (fun z5 => ?_)
  refine b_if_ne hO dX11_doing_8 (tgt := 13) (by decide) ?_ ?_
  · refine b_iload_n hO dX11_doing_13 2 rfl rfl ?_
    refine b_tabIn hO dX11_doing_14 (v := 0) (z := 0) (tgt := 40) (by decide) (by decide) (by decide) rfl (by decide) ?_ (fun hn0 => ?_)
    · refine b_aload_n hO dX11_doing_40 0 rfl rfl ?_
      refine b_getR hO flX11_19 kLX_0 (id := 1) rfl rfl (rk := 9) rfl (by decide) dX11_doing_41 (fun hg2 => ?_)
      refine b_get hO flX11_201 hg2 (v := .ref (ad ((gR z5.2 1) + 10))) rfl dX11_doing_44 ?_
      refine b_iload_n hO dX11_doing_47 1 rfl rfl ?_
      refine b_iald hO (kt_9_10 hg2) (n := 6) (lt_9_10 hg2) dX11_doing_48 ?_
      exact b_iret hO dX11_doing_49
    refine b_tabIn hO dX11_doing_14 (v := 1) (z := 1) (tgt := 50) (by decide) (by decide) (by decide) rfl (by decide) ?_ (fun hn1 => ?_)
    · refine b_aload_n hO dX11_doing_50 0 rfl rfl ?_
      refine b_getR hO flX11_19 kLX_0 (id := 1) rfl rfl (rk := 9) rfl (by decide) dX11_doing_51 (fun hg3 => ?_)
      refine b_get hO flX11_204 hg3 (v := .ref (ad ((gR z5.2 1) + 11))) rfl dX11_doing_54 ?_
      refine b_iload_n hO dX11_doing_57 1 rfl rfl ?_
      refine b_iald hO (kt_9_11 hg3) (n := 6) (lt_9_11 hg3) dX11_doing_58 ?_
      exact b_iret hO dX11_doing_59
    refine b_tabIn hO dX11_doing_14 (v := 2) (z := 2) (tgt := 60) (by decide) (by decide) (by decide) rfl (by decide) ?_ (fun hn2 => ?_)
    · refine b_aload_n hO dX11_doing_60 0 rfl rfl ?_
      refine b_get hO flX11_47 kLX_0 (v := .ref (ad 10)) rfl dX11_doing_61 ?_
      refine b_get hO flX11_207 kLX_10 (v := .ref (ad 13)) rfl dX11_doing_64 ?_
      refine b_iload_n hO dX11_doing_67 1 rfl rfl ?_
      refine b_iald hO kLX_13 (n := 6) rfl dX11_doing_68 ?_
      exact b_iret hO dX11_doing_69
    refine b_tabOut hO dX11_doing_14 (tgt := 70) (by omega) (by decide) ?_
    refine b_iconst hO dX11_doing_70 ic_i_m1 ?_
    exact b_iret hO dX11_doing_71
  · refine b_iconst hO dX11_doing_11 ic_i_m1 ?_
    exact b_iret hO dX11_doing_12
theorem ctX11_doing (n0 : Nat) (hI : Inj LX ad) (x1 : Int32) (x2 : Int32) (M : Mem) : CT l LX D cy ad yX11_doing cX11_doing 3 (some .int) 2 (QI LX D cy ad) [.ref (ad 0), .int x1, .int x2] M (fX11_doing n0 x1 x2 M) :=
  CT.mk LXok hI (by decide) (Nat.le_of_ble_eq_true rfl) (fun hO => tfX11_doing n0 hO x1 x2 M)
/-! X11_isBeyond -/
def fX11_isBeyond (n0 : Nat) (x1 : Int32) (M : Mem) : Option (Int32 × Mem) :=
  if x1 ≤ ((9999 : Int32) - (gI M 1281)) then
    some ((0 : Int32), M)
  else
    some ((1 : Int32), M)
theorem tfX11_isBeyond (n0 : Nat) (hO : OKc p (rmL 1) s m args meth c LX D cy ad cX11_isBeyond RX11 2 1 (some .boolean)) (x1 : Int32) (M : Mem) : BL p l e (rmL 1) s m args below meth c LX D cy ad 2 (QI LX D cy ad) 0 [(0, .ref (ad 0)), (1, .int x1)] [] M (fX11_isBeyond n0 x1 M) := by
  unfold fX11_isBeyond
  refine b_iload_n hO dX11_isBeyond_0 1 rfl rfl ?_
  refine b_sipush hO dX11_isBeyond_1 ic_s_9999 ?_
  refine b_aload_n hO dX11_isBeyond_4 0 rfl rfl ?_
  refine b_get hO flX11_47 kLX_0 (v := .ref (ad 10)) rfl dX11_isBeyond_5 ?_
  refine b_get hO flX11_148 kLX_10 (v := .int (gI _ 1281)) rfl dX11_isBeyond_8 ?_
  refine b_isub hO dX11_isBeyond_11 ?_
  refine b_icmp_le hO dX11_isBeyond_12 (tgt := 19) (by decide) ?_ ?_
  · refine b_iconst hO dX11_isBeyond_19 ic_i_0 ?_
    exact b_zretc hO (Or.inl rfl) dX11_isBeyond_20
  · refine b_iconst hO dX11_isBeyond_15 ic_i_1 ?_
    refine b_goto hO dX11_isBeyond_16 (tgt := 20) (by decide) ?_
    exact b_zretc hO (Or.inr rfl) dX11_isBeyond_20
theorem ctX11_isBeyond (n0 : Nat) (hI : Inj LX ad) (x1 : Int32) (M : Mem) : CT l LX D cy ad yX11_isBeyond cX11_isBeyond 2 (some .boolean) 1 (QI LX D cy ad) [.ref (ad 0), .int x1] M (fX11_isBeyond n0 x1 M) :=
  CT.mk LXok hI (by decide) (Nat.le_of_ble_eq_true rfl) (fun hO => tfX11_isBeyond n0 hO x1 M)
/-! X11_foresee -/
def fX11_foresee (n0 : Nat) (q2 : Nat) (x1 : Int32) (x3 : Int32) (M : Mem) : Option (Int32 × Mem) :=
  (fX11_lookAt n0 x1 M).bind fun z2 =>
  (fX1_foresee n0 q2 x3 z2).bind fun z11 =>
  some (z11.1, z11.2)
theorem tfX11_foresee (n0 : Nat) (q2 : Nat) (hq2 : isK LX q2 13) (hO : OKc p (rmL 6) s m args meth c LX D cy ad cX11_foresee RX11 4 6 (some .int)) (x1 : Int32) (x3 : Int32) (M : Mem) : BL p l e (rmL 6) s m args below meth c LX D cy ad 4 (QI LX D cy ad) 0 [(0, .ref (ad 0)), (1, .int x1), (2, .ref (ad q2)), (3, .int x3)] [] M (fX11_foresee n0 q2 x1 x3 M) := by
  unfold fX11_foresee
  refine b_aload_n hO dX11_foresee_0 0 rfl rfl ?_
  refine b_iload_n hO dX11_foresee_1 1 rfl rfl ?_
  refine b_callVV hO mdX11_lookAt mvX11_lookAt w948 (ci := 11) rfl rfl (by decide) kLX_0 (As := [.int _]) (st := []) (ctX11_lookAt n0 hO.2.2.2.2.2.2.1 _ _) (Nat.le_of_ble_eq_true rfl) rfl rfl (Nat.le_of_ble_eq_true rfl) dX11_foresee_2 (fun z2 => ?_)
  refine b_aload_n hO dX11_foresee_5 0 rfl rfl ?_
  refine b_get hO flX11_40 kLX_0 (v := .ref (ad 7)) rfl dX11_foresee_6 ?_
  refine b_aload_n hO dX11_foresee_9 2 rfl rfl ?_
  refine b_iload_n hO dX11_foresee_10 3 rfl rfl ?_
  refine b_callVI hO mdX1_foresee mvX1_foresee w970 (ci := 1) rfl rfl (by decide) kLX_7 (As := [.ref _, .int _]) (st := []) (ctX1_foresee n0 _ hq2 hO.2.2.2.2.2.2.1 _ _) (Nat.le_of_ble_eq_true rfl) rfl rfl (Nat.le_of_ble_eq_true rfl) dX11_foresee_11 (fun z11 => ?_)
  exact b_iret hO dX11_foresee_14
theorem ctX11_foresee (n0 : Nat) (q2 : Nat) (hq2 : isK LX q2 13) (hI : Inj LX ad) (x1 : Int32) (x3 : Int32) (M : Mem) : CT l LX D cy ad yX11_foresee cX11_foresee 4 (some .int) 6 (QI LX D cy ad) [.ref (ad 0), .int x1, .ref (ad q2), .int x3] M (fX11_foresee n0 q2 x1 x3 M) :=
  CT.mk LXok hI (by decide) (Nat.le_of_ble_eq_true rfl) (fun hO => tfX11_foresee n0 q2 hq2 hO x1 x3 M)
/-! X11_later -/
def fX11_later (n0 : Nat) (x1 : Int32) (x2 : Int32) (M : Mem) : Option (Int32 × Mem) :=
  (fX9_isCorner n0 (gR M 1) x1 M).bind fun z5 =>
  if z5.1 = 0 then
    some ((-1 : Int32), z5.2)
  else
    if x2 < 0 then
      some ((-1 : Int32), z5.2)
    else
      if (60 : Int32) < x2 then
        some ((-1 : Int32), z5.2)
      else
        (fX11_isBeyond n0 x2 z5.2).bind fun z23 =>
        if z23.1 = 0 then
          (fX11_foresee n0 26 x1 x2 z23.2).bind fun z38 =>
          if oob x2 61 then none else
          some ((gA z38.2 26 (Int32.toNatClampNeg x2)), z38.2)
        else
          some ((-1 : Int32), z23.2)
theorem tfX11_later (n0 : Nat) (hO : OKc p (rmL 7) s m args meth c LX D cy ad cX11_later RX11 3 7 (some .int)) (x1 : Int32) (x2 : Int32) (M : Mem) : BL p l e (rmL 7) s m args below meth c LX D cy ad 3 (QI LX D cy ad) 0 [(0, .ref (ad 0)), (1, .int x1), (2, .int x2)] [] M (fX11_later n0 x1 x2 M) := by
  unfold fX11_later
  refine b_aload_n hO dX11_later_0 0 rfl rfl ?_
  refine b_getR hO flX11_19 kLX_0 (id := 1) rfl rfl (rk := 9) rfl (by decide) dX11_later_1 (fun hg1 => ?_)
  refine b_iload_n hO dX11_later_4 1 rfl rfl ?_
  refine b_callVI hO mdX9_isCorner mvX9_isCorner w928 (ci := 9) rfl rfl (by decide) hg1 (As := [.int _]) (st := []) (ctX9_isCorner n0 _ hg1 hO.2.2.2.2.2.2.1 _ _) (Nat.le_of_ble_eq_true rfl) rfl rfl (Nat.le_of_ble_eq_true rfl) dX11_later_5 (fun z5 => ?_)
  refine b_if_eq hO dX11_later_8 (tgt := 29) (by decide) ?_ ?_
  · refine b_iconst hO dX11_later_29 ic_i_m1 ?_
    exact b_iret hO dX11_later_30
  · refine b_iload_n hO dX11_later_11 2 rfl rfl ?_
    refine b_if_lt hO dX11_later_12 (tgt := 29) (by decide) ?_ ?_
    · refine b_iconst hO dX11_later_29 ic_i_m1 ?_
      exact b_iret hO dX11_later_30
    · refine b_iload_n hO dX11_later_15 2 rfl rfl ?_
      refine b_bipush hO dX11_later_16 ic_b_60 ?_
      refine b_icmp_gt hO dX11_later_18 (tgt := 29) (by decide) ?_ ?_
      · refine b_iconst hO dX11_later_29 ic_i_m1 ?_
        exact b_iret hO dX11_later_30
      · refine b_aload_n hO dX11_later_21 0 rfl rfl ?_
        refine b_iload_n hO dX11_later_22 2 rfl rfl ?_
        refine b_callVI hO mdX11_isBeyond mvX11_isBeyond w962 (ci := 11) rfl rfl (by decide) kLX_0 (As := [.int _]) (st := []) (ctX11_isBeyond n0 hO.2.2.2.2.2.2.1 _ _) (Nat.le_of_ble_eq_true rfl) rfl rfl (Nat.le_of_ble_eq_true rfl) dX11_later_23 (fun z23 => ?_)
        refine b_if_eq hO dX11_later_26 (tgt := 31) (by decide) ?_ ?_
        · refine b_aload_n hO dX11_later_31 0 rfl rfl ?_
          refine b_iload_n hO dX11_later_32 1 rfl rfl ?_
          refine b_aload_n hO dX11_later_33 0 rfl rfl ?_
          refine b_get hO flX11_72 kLX_0 (v := .ref (ad 26)) rfl dX11_later_34 ?_
          refine b_iload_n hO dX11_later_37 2 rfl rfl ?_
          refine b_callVI hO mdX11_foresee mvX11_foresee w966 (ci := 11) rfl rfl (by decide) kLX_0 (As := [.int _, .ref _, .int _]) (st := []) (ctX11_foresee n0 _ kLX_26 hO.2.2.2.2.2.2.1 _ _ _) (Nat.le_of_ble_eq_true rfl) rfl rfl (Nat.le_of_ble_eq_true rfl) dX11_later_38 (fun z38 => ?_)
          refine b_pop hO dX11_later_41 rfl ?_
          refine b_aload_n hO dX11_later_42 0 rfl rfl ?_
          refine b_get hO flX11_72 kLX_0 (v := .ref (ad 26)) rfl dX11_later_43 ?_
          refine b_iload_n hO dX11_later_46 2 rfl rfl ?_
          refine b_iald hO kLX_26 (n := 61) rfl dX11_later_47 ?_
          exact b_iret hO dX11_later_48
        · refine b_iconst hO dX11_later_29 ic_i_m1 ?_
          exact b_iret hO dX11_later_30
theorem ctX11_later (n0 : Nat) (hI : Inj LX ad) (x1 : Int32) (x2 : Int32) (M : Mem) : CT l LX D cy ad yX11_later cX11_later 3 (some .int) 7 (QI LX D cy ad) [.ref (ad 0), .int x1, .int x2] M (fX11_later n0 x1 x2 M) :=
  CT.mk LXok hI (by decide) (Nat.le_of_ble_eq_true rfl) (fun hO => tfX11_later n0 hO x1 x2 M)
/-! X11_when -/
def bX11_when_50 (n0 : Nat) (k50 : Int32 → Int32 → Int32 → Mem → Option (Int32 × Mem)) (x1 : Int32) (x2 : Int32) (x3 : Int32) (M : Mem) : Option (Int32 × Mem) :=
  if x2 < x3 then
    some ((-1 : Int32), M)
  else
    if oob x3 61 then none else
    if oob x1 6 then none else
    if (gA M 26 (Int32.toNatClampNeg x3)) = (gA M ((gR M 1) + 11) (Int32.toNatClampNeg x1)) then
      some (x3, M)
    else
      k50 x1 x2 (x3 + (1 : Int32)) M
def fX11_when_50 (n0 : Nat) : Int32 → Int32 → Int32 → Mem → Option (Int32 × Mem) := loopN (bX11_when_50 n0) (fun _ _ _ _ => none) n0
def fX11_when (n0 : Nat) (x1 : Int32) (M : Mem) : Option (Int32 × Mem) :=
  (fX9_isDoing n0 (gR M 1) x1 M).bind fun z5 =>
  if z5.1 = 0 then
    some ((-1 : Int32), z5.2)
  else
    if oob x1 6 then none else
    if (gA z5.2 13 (Int32.toNatClampNeg x1)) = (1 : Int32) then
      some ((0 : Int32), z5.2)
    else
      if oob x1 6 then none else
      (fX11_foresee n0 26 (gA z5.2 ((gR z5.2 1) + 10) (Int32.toNatClampNeg x1)) (60 : Int32) z5.2).bind fun z44 =>
      fX11_when_50 n0 x1 z44.1 (1 : Int32) z44.2
theorem tbX11_when_50 (n0 : Nat) (hO : OKc p (rmL 7) s m args meth c LX D cy ad cX11_when RX11 4 7 (some .int)) (k50 : Int32 → Int32 → Int32 → Mem → Option (Int32 × Mem)) (hk50 : ∀ (x1 : Int32) (x2 : Int32) (x3 : Int32) (M : Mem), BL p l e (rmL 7) s m args below meth c LX D cy ad 4 (QI LX D cy ad) 50 [(0, .ref (ad 0)), (1, .int x1), (2, .int x2), (3, .int x3)] [] M (k50 x1 x2 x3 M)) (x1 : Int32) (x2 : Int32) (x3 : Int32) (M : Mem) : BL p l e (rmL 7) s m args below meth c LX D cy ad 4 (QI LX D cy ad) 50 [(0, .ref (ad 0)), (1, .int x1), (2, .int x2), (3, .int x3)] [] M (bX11_when_50 n0 k50 x1 x2 x3 M) := by
  unfold bX11_when_50
  refine b_iload_n hO dX11_when_50 3 rfl rfl ?_
  refine b_iload_n hO dX11_when_51 2 rfl rfl ?_
  refine b_icmp_gt hO dX11_when_52 (tgt := 81) (by decide) ?_ ?_
  · refine b_iconst hO dX11_when_81 ic_i_m1 ?_
    exact b_iret hO dX11_when_82
  · refine b_aload_n hO dX11_when_55 0 rfl rfl ?_
    refine b_get hO flX11_72 kLX_0 (v := .ref (ad 26)) rfl dX11_when_56 ?_
    refine b_iload_n hO dX11_when_59 3 rfl rfl ?_
    refine b_iald hO kLX_26 (n := 61) rfl dX11_when_60 ?_
    refine b_aload_n hO dX11_when_61 0 rfl rfl ?_
    refine b_getR hO flX11_19 kLX_0 (id := 1) rfl rfl (rk := 9) rfl (by decide) dX11_when_62 (fun hg1 => ?_)
    refine b_get hO flX11_204 hg1 (v := .ref (ad ((gR M 1) + 11))) rfl dX11_when_65 ?_
    refine b_iload_n hO dX11_when_68 1 rfl rfl ?_
    refine b_iald hO (kt_9_11 hg1) (n := 6) (lt_9_11 hg1) dX11_when_69 ?_
    refine b_icmp_ne hO dX11_when_70 (tgt := 75) (by decide) ?_ ?_
    · refine b_iinc hO dX11_when_75 3 rfl ic_i_1 (by decide) (lv' := [(3, .int _), (0, .ref _), (1, .int _), (2, .int _)]) rfl ?_
      refine b_goto hO dX11_when_78 (tgt := 50) (by decide) ?_
      refine b_sub [1, 2, 3, 0] rfl ?_
      exact hk50 _ _ _ _
    · refine b_iload_n hO dX11_when_73 3 rfl rfl ?_
      exact b_iret hO dX11_when_74
theorem lX11_when_50 (n0 : Nat) (hO : OKc p (rmL 7) s m args meth c LX D cy ad cX11_when RX11 4 7 (some .int)) : ∀ (w : Nat) (x1 : Int32) (x2 : Int32) (x3 : Int32) (M : Mem), BL p l e (rmL 7) s m args below meth c LX D cy ad 4 (QI LX D cy ad) 50 [(0, .ref (ad 0)), (1, .int x1), (2, .int x2), (3, .int x3)] [] M (loopN (bX11_when_50 n0) (fun _ _ _ _ => none) w x1 x2 x3 M) := by
  intro w
  induction w with
  | zero =>
    intros
    exact b_none
  | succ w ih =>
    intro x1 x2 x3 M
    exact tbX11_when_50 n0 hO _ ih x1 x2 x3 M
theorem tfX11_when_50 (n0 : Nat) (hO : OKc p (rmL 7) s m args meth c LX D cy ad cX11_when RX11 4 7 (some .int)) (x1 : Int32) (x2 : Int32) (x3 : Int32) (M : Mem) : BL p l e (rmL 7) s m args below meth c LX D cy ad 4 (QI LX D cy ad) 50 [(0, .ref (ad 0)), (1, .int x1), (2, .int x2), (3, .int x3)] [] M (fX11_when_50 n0 x1 x2 x3 M) := lX11_when_50 n0 hO n0 x1 x2 x3 M
theorem tfX11_when (n0 : Nat) (hO : OKc p (rmL 7) s m args meth c LX D cy ad cX11_when RX11 4 7 (some .int)) (x1 : Int32) (M : Mem) : BL p l e (rmL 7) s m args below meth c LX D cy ad 4 (QI LX D cy ad) 0 [(0, .ref (ad 0)), (1, .int x1)] [] M (fX11_when n0 x1 M) := by
  unfold fX11_when
  refine b_aload_n hO dX11_when_0 0 rfl rfl ?_
  refine b_getR hO flX11_19 kLX_0 (id := 1) rfl rfl (rk := 9) rfl (by decide) dX11_when_1 (fun hg1 => ?_)
  refine b_iload_n hO dX11_when_4 1 rfl rfl ?_
  refine b_callVI hO mdX9_isDoing mvX9_isDoing w932 (ci := 9) rfl rfl (by decide) hg1 (As := [.int _]) (st := []) (ctX9_isDoing n0 _ hg1 hO.2.2.2.2.2.2.1 _ _) (Nat.le_of_ble_eq_true rfl) rfl rfl (Nat.le_of_ble_eq_true rfl) dX11_when_5 (fun z5 => ?_)
  refine b_if_ne hO dX11_when_8 (tgt := 13) (by decide) ?_ ?_
  · refine b_aload_n hO dX11_when_13 0 rfl rfl ?_
    refine b_get hO flX11_47 kLX_0 (v := .ref (ad 10)) rfl dX11_when_14 ?_
    refine b_get hO flX11_207 kLX_10 (v := .ref (ad 13)) rfl dX11_when_17 ?_
    refine b_iload_n hO dX11_when_20 1 rfl rfl ?_
    refine b_iald hO kLX_13 (n := 6) rfl dX11_when_21 ?_
    refine b_iconst hO dX11_when_22 ic_i_1 ?_
    refine b_icmp_ne hO dX11_when_23 (tgt := 28) (by decide) ?_ ?_
    · refine b_aload_n hO dX11_when_28 0 rfl rfl ?_
      refine b_aload_n hO dX11_when_29 0 rfl rfl ?_
      refine b_getR hO flX11_19 kLX_0 (id := 1) rfl rfl (rk := 9) rfl (by decide) dX11_when_30 (fun hg2 => ?_)
      refine b_get hO flX11_201 hg2 (v := .ref (ad ((gR z5.2 1) + 10))) rfl dX11_when_33 ?_
      refine b_iload_n hO dX11_when_36 1 rfl rfl ?_
      refine b_iald hO (kt_9_10 hg2) (n := 6) (lt_9_10 hg2) dX11_when_37 ?_
      refine b_aload_n hO dX11_when_38 0 rfl rfl ?_
      refine b_get hO flX11_72 kLX_0 (v := .ref (ad 26)) rfl dX11_when_39 ?_
      refine b_bipush hO dX11_when_42 ic_b_60 ?_
      refine b_callVI hO mdX11_foresee mvX11_foresee w966 (ci := 11) rfl rfl (by decide) kLX_0 (As := [.int _, .ref _, .int _]) (st := []) (ctX11_foresee n0 _ kLX_26 hO.2.2.2.2.2.2.1 _ _ _) (Nat.le_of_ble_eq_true rfl) rfl rfl (Nat.le_of_ble_eq_true rfl) dX11_when_44 (fun z44 => ?_)
      refine b_istore_n hO dX11_when_47 rfl (by decide) (lv' := [(2, .int _), (0, .ref _), (1, .int _)]) rfl ?_
      refine b_iconst hO dX11_when_48 ic_i_1 ?_
      refine b_istore_n hO dX11_when_49 rfl (by decide) (lv' := [(3, .int _), (2, .int _), (0, .ref _), (1, .int _)]) rfl ?_
      refine b_sub [2, 3, 1, 0] rfl ?_
      exact tfX11_when_50 n0 hO _ _ _ _
    · refine b_iconst hO dX11_when_26 ic_i_0 ?_
      exact b_iret hO dX11_when_27
  · refine b_iconst hO dX11_when_11 ic_i_m1 ?_
    exact b_iret hO dX11_when_12
theorem ctX11_when (n0 : Nat) (hI : Inj LX ad) (x1 : Int32) (M : Mem) : CT l LX D cy ad yX11_when cX11_when 4 (some .int) 7 (QI LX D cy ad) [.ref (ad 0), .int x1] M (fX11_when n0 x1 M) :=
  CT.mk LXok hI (by decide) (Nat.le_of_ble_eq_true rfl) (fun hO => tfX11_when n0 hO x1 M)
/-! X11_alike -/
def bX11_alike_56 (n0 : Nat) (k56 : Int32 → Int32 → Mem → Option (Int32 × Mem)) (x3 : Int32) (x4 : Int32) (M : Mem) : Option (Int32 × Mem) :=
  if x3 < x4 then
    some ((-1 : Int32), M)
  else
    if oob x4 61 then none else
    if oob x4 61 then none else
    if (gA M 26 (Int32.toNatClampNeg x4)) = (gA M 27 (Int32.toNatClampNeg x4)) then
      some (x4, M)
    else
      k56 x3 (x4 + (1 : Int32)) M
def fX11_alike_56 (n0 : Nat) : Int32 → Int32 → Mem → Option (Int32 × Mem) := loopN (bX11_alike_56 n0) (fun _ _ _ => none) n0
def fX11_alike (n0 : Nat) (x1 : Int32) (x2 : Int32) (M : Mem) : Option (Int32 × Mem) :=
  (fX9_isCorner n0 (gR M 1) x1 M).bind fun z5 =>
  if z5.1 = 0 then
    some ((-1 : Int32), z5.2)
  else
    (fX9_isCorner n0 (gR z5.2 1) x2 z5.2).bind fun z16 =>
    if z16.1 = 0 then
      some ((-1 : Int32), z16.2)
    else
      if x1 = x2 then
        some ((-1 : Int32), z16.2)
      else
        (fX11_foresee n0 26 x1 (60 : Int32) z16.2).bind fun z37 =>
        (fX11_foresee n0 27 x2 (60 : Int32) z37.2).bind fun z49 =>
        fX11_alike_56 n0 z37.1 (0 : Int32) z49.2
theorem tbX11_alike_56 (n0 : Nat) (hO : OKc p (rmL 7) s m args meth c LX D cy ad cX11_alike RX11 5 7 (some .int)) (k56 : Int32 → Int32 → Mem → Option (Int32 × Mem)) (hk56 : ∀ (x3 : Int32) (x4 : Int32) (M : Mem), BL p l e (rmL 7) s m args below meth c LX D cy ad 5 (QI LX D cy ad) 56 [(0, .ref (ad 0)), (3, .int x3), (4, .int x4)] [] M (k56 x3 x4 M)) (x3 : Int32) (x4 : Int32) (M : Mem) : BL p l e (rmL 7) s m args below meth c LX D cy ad 5 (QI LX D cy ad) 56 [(0, .ref (ad 0)), (3, .int x3), (4, .int x4)] [] M (bX11_alike_56 n0 k56 x3 x4 M) := by
  unfold bX11_alike_56
  refine b_iload hO dX11_alike_56 2 rfl ?_
  refine b_iload_n hO dX11_alike_58 1 rfl rfl ?_
  refine b_icmp_gt hO dX11_alike_59 (tgt := 88) (by decide) ?_ ?_
  · refine b_iconst hO dX11_alike_88 ic_i_m1 ?_
    exact b_iret hO dX11_alike_89
  · refine b_aload_n hO dX11_alike_62 0 rfl rfl ?_
    refine b_get hO flX11_72 kLX_0 (v := .ref (ad 26)) rfl dX11_alike_63 ?_
    refine b_iload hO dX11_alike_66 2 rfl ?_
    refine b_iald hO kLX_26 (n := 61) rfl dX11_alike_68 ?_
    refine b_aload_n hO dX11_alike_69 0 rfl rfl ?_
    refine b_get hO flX11_76 kLX_0 (v := .ref (ad 27)) rfl dX11_alike_70 ?_
    refine b_iload hO dX11_alike_73 2 rfl ?_
    refine b_iald hO kLX_27 (n := 61) rfl dX11_alike_75 ?_
    refine b_icmp_ne hO dX11_alike_76 (tgt := 82) (by decide) ?_ ?_
    · refine b_iinc hO dX11_alike_82 2 rfl ic_i_1 (by decide) (lv' := [(4, .int _), (0, .ref _), (3, .int _)]) rfl ?_
      refine b_goto hO dX11_alike_85 (tgt := 56) (by decide) ?_
      refine b_sub [1, 2, 0] rfl ?_
      exact hk56 _ _ _
    · refine b_iload hO dX11_alike_79 2 rfl ?_
      exact b_iret hO dX11_alike_81
theorem lX11_alike_56 (n0 : Nat) (hO : OKc p (rmL 7) s m args meth c LX D cy ad cX11_alike RX11 5 7 (some .int)) : ∀ (w : Nat) (x3 : Int32) (x4 : Int32) (M : Mem), BL p l e (rmL 7) s m args below meth c LX D cy ad 5 (QI LX D cy ad) 56 [(0, .ref (ad 0)), (3, .int x3), (4, .int x4)] [] M (loopN (bX11_alike_56 n0) (fun _ _ _ => none) w x3 x4 M) := by
  intro w
  induction w with
  | zero =>
    intros
    exact b_none
  | succ w ih =>
    intro x3 x4 M
    exact tbX11_alike_56 n0 hO _ ih x3 x4 M
theorem tfX11_alike_56 (n0 : Nat) (hO : OKc p (rmL 7) s m args meth c LX D cy ad cX11_alike RX11 5 7 (some .int)) (x3 : Int32) (x4 : Int32) (M : Mem) : BL p l e (rmL 7) s m args below meth c LX D cy ad 5 (QI LX D cy ad) 56 [(0, .ref (ad 0)), (3, .int x3), (4, .int x4)] [] M (fX11_alike_56 n0 x3 x4 M) := lX11_alike_56 n0 hO n0 x3 x4 M
theorem tfX11_alike (n0 : Nat) (hO : OKc p (rmL 7) s m args meth c LX D cy ad cX11_alike RX11 5 7 (some .int)) (x1 : Int32) (x2 : Int32) (M : Mem) : BL p l e (rmL 7) s m args below meth c LX D cy ad 5 (QI LX D cy ad) 0 [(0, .ref (ad 0)), (1, .int x1), (2, .int x2)] [] M (fX11_alike n0 x1 x2 M) := by
  unfold fX11_alike
  refine b_aload_n hO dX11_alike_0 0 rfl rfl ?_
  refine b_getR hO flX11_19 kLX_0 (id := 1) rfl rfl (rk := 9) rfl (by decide) dX11_alike_1 (fun hg1 => ?_)
  refine b_iload_n hO dX11_alike_4 1 rfl rfl ?_
  refine b_callVI hO mdX9_isCorner mvX9_isCorner w928 (ci := 9) rfl rfl (by decide) hg1 (As := [.int _]) (st := []) (ctX9_isCorner n0 _ hg1 hO.2.2.2.2.2.2.1 _ _) (Nat.le_of_ble_eq_true rfl) rfl rfl (Nat.le_of_ble_eq_true rfl) dX11_alike_5 (fun z5 => ?_)
  refine b_if_eq hO dX11_alike_8 (tgt := 27) (by decide) ?_ ?_
  · refine b_iconst hO dX11_alike_27 ic_i_m1 ?_
    exact b_iret hO dX11_alike_28
  · refine b_aload_n hO dX11_alike_11 0 rfl rfl ?_
    refine b_getR hO flX11_19 kLX_0 (id := 1) rfl rfl (rk := 9) rfl (by decide) dX11_alike_12 (fun hg2 => ?_)
    refine b_iload_n hO dX11_alike_15 2 rfl rfl ?_
    refine b_callVI hO mdX9_isCorner mvX9_isCorner w928 (ci := 9) rfl rfl (by decide) hg2 (As := [.int _]) (st := []) (ctX9_isCorner n0 _ hg2 hO.2.2.2.2.2.2.1 _ _) (Nat.le_of_ble_eq_true rfl) rfl rfl (Nat.le_of_ble_eq_true rfl) dX11_alike_16 (fun z16 => ?_)
    refine b_if_eq hO dX11_alike_19 (tgt := 27) (by decide) ?_ ?_
    · refine b_iconst hO dX11_alike_27 ic_i_m1 ?_
      exact b_iret hO dX11_alike_28
    · refine b_iload_n hO dX11_alike_22 1 rfl rfl ?_
      refine b_iload_n hO dX11_alike_23 2 rfl rfl ?_
      refine b_icmp_ne hO dX11_alike_24 (tgt := 29) (by decide) ?_ ?_
      · refine b_aload_n hO dX11_alike_29 0 rfl rfl ?_
        refine b_iload_n hO dX11_alike_30 1 rfl rfl ?_
        refine b_aload_n hO dX11_alike_31 0 rfl rfl ?_
        refine b_get hO flX11_72 kLX_0 (v := .ref (ad 26)) rfl dX11_alike_32 ?_
        refine b_bipush hO dX11_alike_35 ic_b_60 ?_
        refine b_callVI hO mdX11_foresee mvX11_foresee w966 (ci := 11) rfl rfl (by decide) kLX_0 (As := [.int _, .ref _, .int _]) (st := []) (ctX11_foresee n0 _ kLX_26 hO.2.2.2.2.2.2.1 _ _ _) (Nat.le_of_ble_eq_true rfl) rfl rfl (Nat.le_of_ble_eq_true rfl) dX11_alike_37 (fun z37 => ?_)
        refine b_istore_n hO dX11_alike_40 rfl (by decide) (lv' := [(3, .int _), (0, .ref _), (1, .int _), (2, .int _)]) rfl ?_
        refine b_aload_n hO dX11_alike_41 1 rfl rfl ?_
        refine b_iload_n hO dX11_alike_42 3 rfl rfl ?_
        refine b_aload_n hO dX11_alike_43 1 rfl rfl ?_
        refine b_get hO flX11_76 kLX_0 (v := .ref (ad 27)) rfl dX11_alike_44 ?_
        refine b_bipush hO dX11_alike_47 ic_b_60 ?_
        refine b_callVI hO mdX11_foresee mvX11_foresee w966 (ci := 11) rfl rfl (by decide) kLX_0 (As := [.int _, .ref _, .int _]) (st := []) (ctX11_foresee n0 _ kLX_27 hO.2.2.2.2.2.2.1 _ _ _) (Nat.le_of_ble_eq_true rfl) rfl rfl (Nat.le_of_ble_eq_true rfl) dX11_alike_49 (fun z49 => ?_)
        refine b_pop hO dX11_alike_52 rfl ?_
        refine b_iconst hO dX11_alike_53 ic_i_0 ?_
        refine b_istore hO dX11_alike_54 (by decide) (lv' := [(4, .int _), (3, .int _), (0, .ref _), (1, .int _), (2, .int _)]) rfl ?_
        refine b_sub [2, 1, 0] rfl ?_
        exact tfX11_alike_56 n0 hO _ _ _
      · refine b_iconst hO dX11_alike_27 ic_i_m1 ?_
        exact b_iret hO dX11_alike_28
theorem ctX11_alike (n0 : Nat) (hI : Inj LX ad) (x1 : Int32) (x2 : Int32) (M : Mem) : CT l LX D cy ad yX11_alike cX11_alike 5 (some .int) 7 (QI LX D cy ad) [.ref (ad 0), .int x1, .int x2] M (fX11_alike n0 x1 x2 M) :=
  CT.mk LXok hI (by decide) (Nat.le_of_ble_eq_true rfl) (fun hO => tfX11_alike n0 hO x1 x2 M)
/-! X11_tellsWithin -/
def bX11_tellsWithin_3 (n0 : Nat) (k3 : Int32 → Int32 → Int32 → Mem → Option (Int32 × Mem)) (x1 : Int32) (x3 : Int32) (x4 : Int32) (M : Mem) : Option (Int32 × Mem) :=
  if x3 < x4 then
    some ((0 : Int32), M)
  else
    if oob x4 61 then none else
    if (gA M 26 (Int32.toNatClampNeg x4)) = x1 then
      some ((1 : Int32), M)
    else
      k3 x1 x3 (x4 + (1 : Int32)) M
def fX11_tellsWithin_3 (n0 : Nat) : Int32 → Int32 → Int32 → Mem → Option (Int32 × Mem) := loopN (bX11_tellsWithin_3 n0) (fun _ _ _ _ => none) n0
def fX11_tellsWithin (n0 : Nat) (x1 : Int32) (x2 : Int32) (x3 : Int32) (M : Mem) : Option (Int32 × Mem) :=
  fX11_tellsWithin_3 n0 x1 x3 x2 M
theorem tbX11_tellsWithin_3 (n0 : Nat) (hO : OKc p (rmL 1) s m args meth c LX D cy ad cX11_tellsWithin RX11 5 1 (some .boolean)) (k3 : Int32 → Int32 → Int32 → Mem → Option (Int32 × Mem)) (hk3 : ∀ (x1 : Int32) (x3 : Int32) (x4 : Int32) (M : Mem), BL p l e (rmL 1) s m args below meth c LX D cy ad 5 (QI LX D cy ad) 3 [(0, .ref (ad 0)), (1, .int x1), (3, .int x3), (4, .int x4)] [] M (k3 x1 x3 x4 M)) (x1 : Int32) (x3 : Int32) (x4 : Int32) (M : Mem) : BL p l e (rmL 1) s m args below meth c LX D cy ad 5 (QI LX D cy ad) 3 [(0, .ref (ad 0)), (1, .int x1), (3, .int x3), (4, .int x4)] [] M (bX11_tellsWithin_3 n0 k3 x1 x3 x4 M) := by
  unfold bX11_tellsWithin_3
  refine b_iload hO dX11_tellsWithin_3 3 rfl ?_
  refine b_iload_n hO dX11_tellsWithin_5 2 rfl rfl ?_
  refine b_icmp_gt hO dX11_tellsWithin_6 (tgt := 28) (by decide) ?_ ?_
  · refine b_iconst hO dX11_tellsWithin_28 ic_i_0 ?_
    exact b_zretc hO (Or.inl rfl) dX11_tellsWithin_29
  · refine b_aload_n hO dX11_tellsWithin_9 0 rfl rfl ?_
    refine b_get hO flX11_72 kLX_0 (v := .ref (ad 26)) rfl dX11_tellsWithin_10 ?_
    refine b_iload hO dX11_tellsWithin_13 3 rfl ?_
    refine b_iald hO kLX_26 (n := 61) rfl dX11_tellsWithin_15 ?_
    refine b_iload_n hO dX11_tellsWithin_16 1 rfl rfl ?_
    refine b_icmp_ne hO dX11_tellsWithin_17 (tgt := 22) (by decide) ?_ ?_
    · refine b_iinc hO dX11_tellsWithin_22 3 rfl ic_i_1 (by decide) (lv' := [(4, .int _), (0, .ref _), (1, .int _), (3, .int _)]) rfl ?_
      refine b_goto hO dX11_tellsWithin_25 (tgt := 3) (by decide) ?_
      refine b_sub [1, 2, 3, 0] rfl ?_
      exact hk3 _ _ _ _
    · refine b_iconst hO dX11_tellsWithin_20 ic_i_1 ?_
      exact b_zretc hO (Or.inr rfl) dX11_tellsWithin_21
theorem lX11_tellsWithin_3 (n0 : Nat) (hO : OKc p (rmL 1) s m args meth c LX D cy ad cX11_tellsWithin RX11 5 1 (some .boolean)) : ∀ (w : Nat) (x1 : Int32) (x3 : Int32) (x4 : Int32) (M : Mem), BL p l e (rmL 1) s m args below meth c LX D cy ad 5 (QI LX D cy ad) 3 [(0, .ref (ad 0)), (1, .int x1), (3, .int x3), (4, .int x4)] [] M (loopN (bX11_tellsWithin_3 n0) (fun _ _ _ _ => none) w x1 x3 x4 M) := by
  intro w
  induction w with
  | zero =>
    intros
    exact b_none
  | succ w ih =>
    intro x1 x3 x4 M
    exact tbX11_tellsWithin_3 n0 hO _ ih x1 x3 x4 M
theorem tfX11_tellsWithin_3 (n0 : Nat) (hO : OKc p (rmL 1) s m args meth c LX D cy ad cX11_tellsWithin RX11 5 1 (some .boolean)) (x1 : Int32) (x3 : Int32) (x4 : Int32) (M : Mem) : BL p l e (rmL 1) s m args below meth c LX D cy ad 5 (QI LX D cy ad) 3 [(0, .ref (ad 0)), (1, .int x1), (3, .int x3), (4, .int x4)] [] M (fX11_tellsWithin_3 n0 x1 x3 x4 M) := lX11_tellsWithin_3 n0 hO n0 x1 x3 x4 M
theorem tfX11_tellsWithin (n0 : Nat) (hO : OKc p (rmL 1) s m args meth c LX D cy ad cX11_tellsWithin RX11 5 1 (some .boolean)) (x1 : Int32) (x2 : Int32) (x3 : Int32) (M : Mem) : BL p l e (rmL 1) s m args below meth c LX D cy ad 5 (QI LX D cy ad) 0 [(0, .ref (ad 0)), (1, .int x1), (2, .int x2), (3, .int x3)] [] M (fX11_tellsWithin n0 x1 x2 x3 M) := by
  unfold fX11_tellsWithin
  refine b_iload_n hO dX11_tellsWithin_0 2 rfl rfl ?_
  refine b_istore hO dX11_tellsWithin_1 (by decide) (lv' := [(4, .int _), (0, .ref _), (1, .int _), (2, .int _), (3, .int _)]) rfl ?_
  refine b_sub [1, 2, 4, 0] rfl ?_
  exact tfX11_tellsWithin_3 n0 hO _ _ _ _
theorem ctX11_tellsWithin (n0 : Nat) (hI : Inj LX ad) (x1 : Int32) (x2 : Int32) (x3 : Int32) (M : Mem) : CT l LX D cy ad yX11_tellsWithin cX11_tellsWithin 5 (some .boolean) 1 (QI LX D cy ad) [.ref (ad 0), .int x1, .int x2, .int x3] M (fX11_tellsWithin n0 x1 x2 x3 M) :=
  CT.mk LXok hI (by decide) (Nat.le_of_ble_eq_true rfl) (fun hO => tfX11_tellsWithin n0 hO x1 x2 x3 M)
/-! X11_doesAll -/
def fX11_doesAll_86 (n0 : Nat) (k3 : Int32 → Int32 → Int32 → Int32 → Int32 → Mem → Option (Int32 × Mem)) (x1 : Int32) (x2 : Int32) (x3 : Int32) (x4 : Int32) (x5 : Int32) (M : Mem) : Option (Int32 × Mem) :=
  k3 x1 x2 x3 x4 (x5 + (1 : Int32)) M
def fX11_doesAll_44 (n0 : Nat) (k3 : Int32 → Int32 → Int32 → Int32 → Int32 → Mem → Option (Int32 × Mem)) (x1 : Int32) (x2 : Int32) (x3 : Int32) (x4 : Int32) (x5 : Int32) (u0 : Int32) (M : Mem) : Option (Int32 × Mem) :=
  if u0 = 0 then
    fX11_doesAll_86 n0 k3 x1 x2 x3 x4 x5 M
  else
    if oob x5 6 then none else
    if (gA M 13 (Int32.toNatClampNeg x5)) = 0 then
      if oob x5 6 then none else
      (fX11_tellsWithin n0 (gA M ((gR M 1) + 11) (Int32.toNatClampNeg x5)) x3 x4 M).bind fun z78 =>
      if z78.1 = 0 then
        some ((0 : Int32), z78.2)
      else
        fX11_doesAll_86 n0 k3 x1 x2 x3 x4 x5 z78.2
    else
      fX11_doesAll_86 n0 k3 x1 x2 x3 x4 x5 M
def fX11_doesAll_43 (n0 : Nat) (k3 : Int32 → Int32 → Int32 → Int32 → Int32 → Mem → Option (Int32 × Mem)) (x1 : Int32) (x2 : Int32) (x3 : Int32) (x4 : Int32) (x5 : Int32) (M : Mem) : Option (Int32 × Mem) :=
  fX11_doesAll_44 n0 k3 x1 x2 x3 x4 x5 (0 : Int32) M
def bX11_doesAll_3 (n0 : Nat) (k3 : Int32 → Int32 → Int32 → Int32 → Int32 → Mem → Option (Int32 × Mem)) (x1 : Int32) (x2 : Int32) (x3 : Int32) (x4 : Int32) (x5 : Int32) (M : Mem) : Option (Int32 × Mem) :=
  if (gI M (128 * (gR M 1) + 12)) ≤ x5 then
    some ((1 : Int32), M)
  else
    if ((x2 >>> (x5 &&& 31)) &&& (1 : Int32)) = (1 : Int32) then
      if oob x5 6 then none else
      if (gA M ((gR M 1) + 10) (Int32.toNatClampNeg x5)) = x1 then
        fX11_doesAll_44 n0 k3 x1 x2 x3 x4 x5 (1 : Int32) M
      else
        fX11_doesAll_43 n0 k3 x1 x2 x3 x4 x5 M
    else
      fX11_doesAll_43 n0 k3 x1 x2 x3 x4 x5 M
def fX11_doesAll_3 (n0 : Nat) : Int32 → Int32 → Int32 → Int32 → Int32 → Mem → Option (Int32 × Mem) := loopN (bX11_doesAll_3 n0) (fun _ _ _ _ _ _ => none) n0
def fX11_doesAll (n0 : Nat) (x1 : Int32) (x2 : Int32) (x3 : Int32) (x4 : Int32) (M : Mem) : Option (Int32 × Mem) :=
  fX11_doesAll_3 n0 x1 x2 x3 x4 (0 : Int32) M
theorem tfX11_doesAll_86 (n0 : Nat) (hO : OKc p (rmL 2) s m args meth c LX D cy ad cX11_doesAll RX11 7 2 (some .boolean)) (k3 : Int32 → Int32 → Int32 → Int32 → Int32 → Mem → Option (Int32 × Mem)) (hk3 : ∀ (x1 : Int32) (x2 : Int32) (x3 : Int32) (x4 : Int32) (x5 : Int32) (M : Mem), BL p l e (rmL 2) s m args below meth c LX D cy ad 7 (QI LX D cy ad) 3 [(0, .ref (ad 0)), (1, .int x1), (2, .int x2), (3, .int x3), (4, .int x4), (5, .int x5)] [] M (k3 x1 x2 x3 x4 x5 M)) (x1 : Int32) (x2 : Int32) (x3 : Int32) (x4 : Int32) (x5 : Int32) (M : Mem) : BL p l e (rmL 2) s m args below meth c LX D cy ad 7 (QI LX D cy ad) 86 [(0, .ref (ad 0)), (1, .int x1), (2, .int x2), (3, .int x3), (4, .int x4), (5, .int x5)] [] M (fX11_doesAll_86 n0 k3 x1 x2 x3 x4 x5 M) := by
  unfold fX11_doesAll_86
  refine b_iinc hO dX11_doesAll_86 5 rfl ic_i_1 (by decide) (lv' := [(5, .int _), (0, .ref _), (1, .int _), (2, .int _), (3, .int _), (4, .int _)]) rfl ?_
  refine b_goto hO dX11_doesAll_89 (tgt := 3) (by decide) ?_
  refine b_sub [1, 2, 3, 4, 5, 0] rfl ?_
  exact hk3 _ _ _ _ _ _
theorem tfX11_doesAll_44 (n0 : Nat) (hO : OKc p (rmL 2) s m args meth c LX D cy ad cX11_doesAll RX11 7 2 (some .boolean)) (k3 : Int32 → Int32 → Int32 → Int32 → Int32 → Mem → Option (Int32 × Mem)) (hk3 : ∀ (x1 : Int32) (x2 : Int32) (x3 : Int32) (x4 : Int32) (x5 : Int32) (M : Mem), BL p l e (rmL 2) s m args below meth c LX D cy ad 7 (QI LX D cy ad) 3 [(0, .ref (ad 0)), (1, .int x1), (2, .int x2), (3, .int x3), (4, .int x4), (5, .int x5)] [] M (k3 x1 x2 x3 x4 x5 M)) (x1 : Int32) (x2 : Int32) (x3 : Int32) (x4 : Int32) (x5 : Int32) (u0 : Int32) (M : Mem) : BL p l e (rmL 2) s m args below meth c LX D cy ad 7 (QI LX D cy ad) 44 [(0, .ref (ad 0)), (1, .int x1), (2, .int x2), (3, .int x3), (4, .int x4), (5, .int x5)] [.int u0] M (fX11_doesAll_44 n0 k3 x1 x2 x3 x4 x5 u0 M) := by
  unfold fX11_doesAll_44
  refine b_istore hO dX11_doesAll_44 (by decide) (lv' := [(6, .int _), (0, .ref _), (1, .int _), (2, .int _), (3, .int _), (4, .int _), (5, .int _)]) rfl ?_
  refine b_iload hO dX11_doesAll_46 0 rfl ?_
  refine b_if_eq hO dX11_doesAll_48 (tgt := 86) (by decide) ?_ ?_
  · refine b_sub [1, 2, 3, 4, 5, 6] rfl ?_
    exact tfX11_doesAll_86 n0 hO k3 hk3 _ _ _ _ _ _
  · refine b_aload_n hO dX11_doesAll_51 1 rfl rfl ?_
    refine b_get hO flX11_47 kLX_0 (v := .ref (ad 10)) rfl dX11_doesAll_52 ?_
    refine b_get hO flX11_207 kLX_10 (v := .ref (ad 13)) rfl dX11_doesAll_55 ?_
    refine b_iload hO dX11_doesAll_58 6 rfl ?_
    refine b_iald hO kLX_13 (n := 6) rfl dX11_doesAll_60 ?_
    refine b_if_ne hO dX11_doesAll_61 (tgt := 86) (by decide) ?_ ?_
    · refine b_sub [1, 2, 3, 4, 5, 6] rfl ?_
      exact tfX11_doesAll_86 n0 hO k3 hk3 _ _ _ _ _ _
    · refine b_aload_n hO dX11_doesAll_64 1 rfl rfl ?_
      refine b_aload_n hO dX11_doesAll_65 1 rfl rfl ?_
      refine b_getR hO flX11_19 kLX_0 (id := 1) rfl rfl (rk := 9) rfl (by decide) dX11_doesAll_66 (fun hg1 => ?_)
      refine b_get hO flX11_204 hg1 (v := .ref (ad ((gR M 1) + 11))) rfl dX11_doesAll_69 ?_
      refine b_iload hO dX11_doesAll_72 6 rfl ?_
      refine b_iald hO (kt_9_11 hg1) (n := 6) (lt_9_11 hg1) dX11_doesAll_74 ?_
      refine b_iload_n hO dX11_doesAll_75 4 rfl rfl ?_
      refine b_iload hO dX11_doesAll_76 5 rfl ?_
      refine b_callVI hO mdX11_tellsWithin mvX11_tellsWithin w1003 (ci := 11) rfl rfl (by decide) kLX_0 (As := [.int _, .int _, .int _]) (st := []) (ctX11_tellsWithin n0 hO.2.2.2.2.2.2.1 _ _ _ _) (Nat.le_of_ble_eq_true rfl) rfl rfl (Nat.le_of_ble_eq_true rfl) dX11_doesAll_78 (fun z78 => ?_)
      refine b_if_ne hO dX11_doesAll_81 (tgt := 86) (by decide) ?_ ?_
      · refine b_sub [1, 2, 3, 4, 5, 6] rfl ?_
        exact tfX11_doesAll_86 n0 hO k3 hk3 _ _ _ _ _ _
      · refine b_iconst hO dX11_doesAll_84 ic_i_0 ?_
        exact b_zretc hO (Or.inl rfl) dX11_doesAll_85
theorem tfX11_doesAll_43 (n0 : Nat) (hO : OKc p (rmL 2) s m args meth c LX D cy ad cX11_doesAll RX11 7 2 (some .boolean)) (k3 : Int32 → Int32 → Int32 → Int32 → Int32 → Mem → Option (Int32 × Mem)) (hk3 : ∀ (x1 : Int32) (x2 : Int32) (x3 : Int32) (x4 : Int32) (x5 : Int32) (M : Mem), BL p l e (rmL 2) s m args below meth c LX D cy ad 7 (QI LX D cy ad) 3 [(0, .ref (ad 0)), (1, .int x1), (2, .int x2), (3, .int x3), (4, .int x4), (5, .int x5)] [] M (k3 x1 x2 x3 x4 x5 M)) (x1 : Int32) (x2 : Int32) (x3 : Int32) (x4 : Int32) (x5 : Int32) (M : Mem) : BL p l e (rmL 2) s m args below meth c LX D cy ad 7 (QI LX D cy ad) 43 [(0, .ref (ad 0)), (1, .int x1), (2, .int x2), (3, .int x3), (4, .int x4), (5, .int x5)] [] M (fX11_doesAll_43 n0 k3 x1 x2 x3 x4 x5 M) := by
  unfold fX11_doesAll_43
  refine b_iconst hO dX11_doesAll_43 ic_i_0 ?_
  exact tfX11_doesAll_44 n0 hO k3 hk3 _ _ _ _ _ _ _
theorem tbX11_doesAll_3 (n0 : Nat) (hO : OKc p (rmL 2) s m args meth c LX D cy ad cX11_doesAll RX11 7 2 (some .boolean)) (k3 : Int32 → Int32 → Int32 → Int32 → Int32 → Mem → Option (Int32 × Mem)) (hk3 : ∀ (x1 : Int32) (x2 : Int32) (x3 : Int32) (x4 : Int32) (x5 : Int32) (M : Mem), BL p l e (rmL 2) s m args below meth c LX D cy ad 7 (QI LX D cy ad) 3 [(0, .ref (ad 0)), (1, .int x1), (2, .int x2), (3, .int x3), (4, .int x4), (5, .int x5)] [] M (k3 x1 x2 x3 x4 x5 M)) (x1 : Int32) (x2 : Int32) (x3 : Int32) (x4 : Int32) (x5 : Int32) (M : Mem) : BL p l e (rmL 2) s m args below meth c LX D cy ad 7 (QI LX D cy ad) 3 [(0, .ref (ad 0)), (1, .int x1), (2, .int x2), (3, .int x3), (4, .int x4), (5, .int x5)] [] M (bX11_doesAll_3 n0 k3 x1 x2 x3 x4 x5 M) := by
  unfold bX11_doesAll_3
  refine b_iload hO dX11_doesAll_3 5 rfl ?_
  refine b_aload_n hO dX11_doesAll_5 0 rfl rfl ?_
  refine b_getR hO flX11_19 kLX_0 (id := 1) rfl rfl (rk := 9) rfl (by decide) dX11_doesAll_6 (fun hg1 => ?_)
  refine b_get hO flX11_145 hg1 (v := .int (gI _ (128 * (gR M 1) + 12))) rfl dX11_doesAll_9 ?_
  refine b_icmp_ge hO dX11_doesAll_12 (tgt := 92) (by decide) ?_ ?_
  · refine b_iconst hO dX11_doesAll_92 ic_i_1 ?_
    exact b_zretc hO (Or.inr rfl) dX11_doesAll_93
  · refine b_iload_n hO dX11_doesAll_15 2 rfl rfl ?_
    refine b_iload hO dX11_doesAll_16 5 rfl ?_
    refine b_ishr hO dX11_doesAll_18 ?_
    refine b_iconst hO dX11_doesAll_19 ic_i_1 ?_
    refine b_iand hO dX11_doesAll_20 ?_
    refine b_iconst hO dX11_doesAll_21 ic_i_1 ?_
    refine b_icmp_ne hO dX11_doesAll_22 (tgt := 43) (by decide) ?_ ?_
    · exact tfX11_doesAll_43 n0 hO k3 hk3 _ _ _ _ _ _
    · refine b_aload_n hO dX11_doesAll_25 0 rfl rfl ?_
      refine b_getR hO flX11_19 kLX_0 (id := 1) rfl rfl (rk := 9) rfl (by decide) dX11_doesAll_26 (fun hg2 => ?_)
      refine b_get hO flX11_201 hg2 (v := .ref (ad ((gR M 1) + 10))) rfl dX11_doesAll_29 ?_
      refine b_iload hO dX11_doesAll_32 5 rfl ?_
      refine b_iald hO (kt_9_10 hg2) (n := 6) (lt_9_10 hg2) dX11_doesAll_34 ?_
      refine b_iload_n hO dX11_doesAll_35 1 rfl rfl ?_
      refine b_icmp_ne hO dX11_doesAll_36 (tgt := 43) (by decide) ?_ ?_
      · exact tfX11_doesAll_43 n0 hO k3 hk3 _ _ _ _ _ _
      · refine b_iconst hO dX11_doesAll_39 ic_i_1 ?_
        refine b_goto hO dX11_doesAll_40 (tgt := 44) (by decide) ?_
        exact tfX11_doesAll_44 n0 hO k3 hk3 _ _ _ _ _ _ _
theorem lX11_doesAll_3 (n0 : Nat) (hO : OKc p (rmL 2) s m args meth c LX D cy ad cX11_doesAll RX11 7 2 (some .boolean)) : ∀ (w : Nat) (x1 : Int32) (x2 : Int32) (x3 : Int32) (x4 : Int32) (x5 : Int32) (M : Mem), BL p l e (rmL 2) s m args below meth c LX D cy ad 7 (QI LX D cy ad) 3 [(0, .ref (ad 0)), (1, .int x1), (2, .int x2), (3, .int x3), (4, .int x4), (5, .int x5)] [] M (loopN (bX11_doesAll_3 n0) (fun _ _ _ _ _ _ => none) w x1 x2 x3 x4 x5 M) := by
  intro w
  induction w with
  | zero =>
    intros
    exact b_none
  | succ w ih =>
    intro x1 x2 x3 x4 x5 M
    exact tbX11_doesAll_3 n0 hO _ ih x1 x2 x3 x4 x5 M
theorem tfX11_doesAll_3 (n0 : Nat) (hO : OKc p (rmL 2) s m args meth c LX D cy ad cX11_doesAll RX11 7 2 (some .boolean)) (x1 : Int32) (x2 : Int32) (x3 : Int32) (x4 : Int32) (x5 : Int32) (M : Mem) : BL p l e (rmL 2) s m args below meth c LX D cy ad 7 (QI LX D cy ad) 3 [(0, .ref (ad 0)), (1, .int x1), (2, .int x2), (3, .int x3), (4, .int x4), (5, .int x5)] [] M (fX11_doesAll_3 n0 x1 x2 x3 x4 x5 M) := lX11_doesAll_3 n0 hO n0 x1 x2 x3 x4 x5 M
theorem tfX11_doesAll (n0 : Nat) (hO : OKc p (rmL 2) s m args meth c LX D cy ad cX11_doesAll RX11 7 2 (some .boolean)) (x1 : Int32) (x2 : Int32) (x3 : Int32) (x4 : Int32) (M : Mem) : BL p l e (rmL 2) s m args below meth c LX D cy ad 7 (QI LX D cy ad) 0 [(0, .ref (ad 0)), (1, .int x1), (2, .int x2), (3, .int x3), (4, .int x4)] [] M (fX11_doesAll n0 x1 x2 x3 x4 M) := by
  unfold fX11_doesAll
  refine b_iconst hO dX11_doesAll_0 ic_i_0 ?_
  refine b_istore hO dX11_doesAll_1 (by decide) (lv' := [(5, .int _), (0, .ref _), (1, .int _), (2, .int _), (3, .int _), (4, .int _)]) rfl ?_
  refine b_sub [1, 2, 3, 4, 5, 0] rfl ?_
  exact tfX11_doesAll_3 n0 hO _ _ _ _ _ _
theorem ctX11_doesAll (n0 : Nat) (hI : Inj LX ad) (x1 : Int32) (x2 : Int32) (x3 : Int32) (x4 : Int32) (M : Mem) : CT l LX D cy ad yX11_doesAll cX11_doesAll 7 (some .boolean) 2 (QI LX D cy ad) [.ref (ad 0), .int x1, .int x2, .int x3, .int x4] M (fX11_doesAll n0 x1 x2 x3 x4 M) :=
  CT.mk LXok hI (by decide) (Nat.le_of_ble_eq_true rfl) (fun hO => tfX11_doesAll n0 hO x1 x2 x3 x4 M)
/-! X11_doesWithout -/
def fX11_doesWithout (n0 : Nat) (x1 : Int32) (x2 : Int32) (x3 : Int32) (x4 : Int32) (M : Mem) : Option (Int32 × Mem) :=
  (fX11_lookAt n0 x1 M).bind fun z2 =>
  (fX1_foresee n0 26 x4 z2).bind fun z19 =>
  (fX11_doesAll n0 x1 x2 x3 z19.1 z19.2).bind fun z22 =>
  if z22.1 = 0 ∨ z22.1 = 1 then some (z22.1, z22.2) else none
theorem tfX11_doesWithout (n0 : Nat) (hO : OKc p (rmL 6) s m args meth c LX D cy ad cX11_doesWithout RX11 5 6 (some .boolean)) (x1 : Int32) (x2 : Int32) (x3 : Int32) (x4 : Int32) (M : Mem) : BL p l e (rmL 6) s m args below meth c LX D cy ad 5 (QI LX D cy ad) 0 [(0, .ref (ad 0)), (1, .int x1), (2, .int x2), (3, .int x3), (4, .int x4)] [] M (fX11_doesWithout n0 x1 x2 x3 x4 M) := by
  unfold fX11_doesWithout
  refine b_aload_n hO dX11_doesWithout_0 0 rfl rfl ?_
  refine b_iload_n hO dX11_doesWithout_1 1 rfl rfl ?_
  refine b_callVV hO mdX11_lookAt mvX11_lookAt w948 (ci := 11) rfl rfl (by decide) kLX_0 (As := [.int _]) (st := []) (ctX11_lookAt n0 hO.2.2.2.2.2.2.1 _ _) (Nat.le_of_ble_eq_true rfl) rfl rfl (Nat.le_of_ble_eq_true rfl) dX11_doesWithout_2 (fun z2 => ?_)
  refine b_aload_n hO dX11_doesWithout_5 0 rfl rfl ?_
  refine b_iload_n hO dX11_doesWithout_6 1 rfl rfl ?_
  refine b_iload_n hO dX11_doesWithout_7 2 rfl rfl ?_
  refine b_iload_n hO dX11_doesWithout_8 3 rfl rfl ?_
  refine b_aload_n hO dX11_doesWithout_9 0 rfl rfl ?_
  refine b_get hO flX11_40 kLX_0 (v := .ref (ad 7)) rfl dX11_doesWithout_10 ?_
  refine b_aload_n hO dX11_doesWithout_13 0 rfl rfl ?_
  refine b_get hO flX11_72 kLX_0 (v := .ref (ad 26)) rfl dX11_doesWithout_14 ?_
  refine b_iload hO dX11_doesWithout_17 4 rfl ?_
  refine b_callVI hO mdX1_foresee mvX1_foresee w970 (ci := 1) rfl rfl (by decide) kLX_7 (As := [.ref _, .int _]) (st := [.int _, .int _, .int _, .ref _]) (ctX1_foresee n0 _ kLX_26 hO.2.2.2.2.2.2.1 _ _) (Nat.le_of_ble_eq_true rfl) rfl rfl (Nat.le_of_ble_eq_true rfl) dX11_doesWithout_19 (fun z19 => ?_)
  refine b_callVI hO mdX11_doesAll mvX11_doesAll w999 (ci := 11) rfl rfl (by decide) kLX_0 (As := [.int _, .int _, .int _, .int _]) (st := []) (ctX11_doesAll n0 hO.2.2.2.2.2.2.1 _ _ _ _ _) (Nat.le_of_ble_eq_true rfl) rfl rfl (Nat.le_of_ble_eq_true rfl) dX11_doesWithout_22 (fun z22 => ?_)
  exact b_zret hO dX11_doesWithout_25
theorem ctX11_doesWithout (n0 : Nat) (hI : Inj LX ad) (x1 : Int32) (x2 : Int32) (x3 : Int32) (x4 : Int32) (M : Mem) : CT l LX D cy ad yX11_doesWithout cX11_doesWithout 5 (some .boolean) 6 (QI LX D cy ad) [.ref (ad 0), .int x1, .int x2, .int x3, .int x4] M (fX11_doesWithout n0 x1 x2 x3 x4 M) :=
  CT.mk LXok hI (by decide) (Nat.le_of_ble_eq_true rfl) (fun hO => tfX11_doesWithout n0 hO x1 x2 x3 x4 M)
/-! X11_planNothing -/
def bX11_planNothing_28 (n0 : Nat) (k28 : Int32 → Int32 → Int32 → Mem → Option (Int32 × Mem)) (x1 : Int32) (x2 : Int32) (x3 : Int32) (M : Mem) : Option (Int32 × Mem) :=
  if (gI M (128 * (gR M 1) + 5)) ≤ x3 then
    some ((1 : Int32), M)
  else
    (fX11_doesWithout n0 x3 x1 (1 : Int32) x2 M).bind fun z44 =>
    if z44.1 = 0 then
      some ((0 : Int32), z44.2)
    else
      k28 x1 x2 (x3 + (1 : Int32)) z44.2
def fX11_planNothing_28 (n0 : Nat) : Int32 → Int32 → Int32 → Mem → Option (Int32 × Mem) := loopN (bX11_planNothing_28 n0) (fun _ _ _ _ => none) n0
def bX11_planNothing_2 (n0 : Nat) (k2 : Int32 → Int32 → Int32 → Mem → Option (Int32 × Mem)) (x1 : Int32) (x2 : Int32) (x3 : Int32) (M : Mem) : Option (Int32 × Mem) :=
  if (gI M (128 * (gR M 1) + 5)) ≤ x3 then
    fX11_planNothing_28 n0 x1 x2 (0 : Int32) M
  else
    if oob x3 5 then none else
    bnd (sA M 28 (Int32.toNatClampNeg x3) (-1 : Int32)) fun M19 =>
    k2 x1 x2 (x3 + (1 : Int32)) M19
def fX11_planNothing_2 (n0 : Nat) : Int32 → Int32 → Int32 → Mem → Option (Int32 × Mem) := loopN (bX11_planNothing_2 n0) (fun _ _ _ _ => none) n0
def fX11_planNothing (n0 : Nat) (x1 : Int32) (x2 : Int32) (M : Mem) : Option (Int32 × Mem) :=
  fX11_planNothing_2 n0 x1 x2 (0 : Int32) M
theorem tbX11_planNothing_28 (n0 : Nat) (hO : OKc p (rmL 7) s m args meth c LX D cy ad cX11_planNothing RX11 4 7 (some .boolean)) (k28 : Int32 → Int32 → Int32 → Mem → Option (Int32 × Mem)) (hk28 : ∀ (x1 : Int32) (x2 : Int32) (x3 : Int32) (M : Mem), BL p l e (rmL 7) s m args below meth c LX D cy ad 4 (QI LX D cy ad) 28 [(0, .ref (ad 0)), (1, .int x1), (2, .int x2), (3, .int x3)] [] M (k28 x1 x2 x3 M)) (x1 : Int32) (x2 : Int32) (x3 : Int32) (M : Mem) : BL p l e (rmL 7) s m args below meth c LX D cy ad 4 (QI LX D cy ad) 28 [(0, .ref (ad 0)), (1, .int x1), (2, .int x2), (3, .int x3)] [] M (bX11_planNothing_28 n0 k28 x1 x2 x3 M) := by
  unfold bX11_planNothing_28
  refine b_iload_n hO dX11_planNothing_28 3 rfl rfl ?_
  refine b_aload_n hO dX11_planNothing_29 0 rfl rfl ?_
  refine b_getR hO flX11_19 kLX_0 (id := 1) rfl rfl (rk := 9) rfl (by decide) dX11_planNothing_30 (fun hg1 => ?_)
  refine b_get hO flX11_139 hg1 (v := .int (gI _ (128 * (gR M 1) + 5))) rfl dX11_planNothing_33 ?_
  refine b_icmp_ge hO dX11_planNothing_36 (tgt := 58) (by decide) ?_ ?_
  · refine b_iconst hO dX11_planNothing_58 ic_i_1 ?_
    exact b_zretc hO (Or.inr rfl) dX11_planNothing_59
  · refine b_aload_n hO dX11_planNothing_39 0 rfl rfl ?_
    refine b_iload_n hO dX11_planNothing_40 3 rfl rfl ?_
    refine b_iload_n hO dX11_planNothing_41 1 rfl rfl ?_
    refine b_iconst hO dX11_planNothing_42 ic_i_1 ?_
    refine b_iload_n hO dX11_planNothing_43 2 rfl rfl ?_
    refine b_callVI hO mdX11_doesWithout mvX11_doesWithout w995 (ci := 11) rfl rfl (by decide) kLX_0 (As := [.int _, .int _, .int _, .int _]) (st := []) (ctX11_doesWithout n0 hO.2.2.2.2.2.2.1 _ _ _ _ _) (Nat.le_of_ble_eq_true rfl) rfl rfl (Nat.le_of_ble_eq_true rfl) dX11_planNothing_44 (fun z44 => ?_)
    refine b_if_ne hO dX11_planNothing_47 (tgt := 52) (by decide) ?_ ?_
    · refine b_iinc hO dX11_planNothing_52 3 rfl ic_i_1 (by decide) (lv' := [(3, .int _), (0, .ref _), (1, .int _), (2, .int _)]) rfl ?_
      refine b_goto hO dX11_planNothing_55 (tgt := 28) (by decide) ?_
      refine b_sub [1, 2, 3, 0] rfl ?_
      exact hk28 _ _ _ _
    · refine b_iconst hO dX11_planNothing_50 ic_i_0 ?_
      exact b_zretc hO (Or.inl rfl) dX11_planNothing_51
theorem lX11_planNothing_28 (n0 : Nat) (hO : OKc p (rmL 7) s m args meth c LX D cy ad cX11_planNothing RX11 4 7 (some .boolean)) : ∀ (w : Nat) (x1 : Int32) (x2 : Int32) (x3 : Int32) (M : Mem), BL p l e (rmL 7) s m args below meth c LX D cy ad 4 (QI LX D cy ad) 28 [(0, .ref (ad 0)), (1, .int x1), (2, .int x2), (3, .int x3)] [] M (loopN (bX11_planNothing_28 n0) (fun _ _ _ _ => none) w x1 x2 x3 M) := by
  intro w
  induction w with
  | zero =>
    intros
    exact b_none
  | succ w ih =>
    intro x1 x2 x3 M
    exact tbX11_planNothing_28 n0 hO _ ih x1 x2 x3 M
theorem tfX11_planNothing_28 (n0 : Nat) (hO : OKc p (rmL 7) s m args meth c LX D cy ad cX11_planNothing RX11 4 7 (some .boolean)) (x1 : Int32) (x2 : Int32) (x3 : Int32) (M : Mem) : BL p l e (rmL 7) s m args below meth c LX D cy ad 4 (QI LX D cy ad) 28 [(0, .ref (ad 0)), (1, .int x1), (2, .int x2), (3, .int x3)] [] M (fX11_planNothing_28 n0 x1 x2 x3 M) := lX11_planNothing_28 n0 hO n0 x1 x2 x3 M
theorem tbX11_planNothing_2 (n0 : Nat) (hO : OKc p (rmL 7) s m args meth c LX D cy ad cX11_planNothing RX11 4 7 (some .boolean)) (k2 : Int32 → Int32 → Int32 → Mem → Option (Int32 × Mem)) (hk2 : ∀ (x1 : Int32) (x2 : Int32) (x3 : Int32) (M : Mem), BL p l e (rmL 7) s m args below meth c LX D cy ad 4 (QI LX D cy ad) 2 [(0, .ref (ad 0)), (1, .int x1), (2, .int x2), (3, .int x3)] [] M (k2 x1 x2 x3 M)) (x1 : Int32) (x2 : Int32) (x3 : Int32) (M : Mem) : BL p l e (rmL 7) s m args below meth c LX D cy ad 4 (QI LX D cy ad) 2 [(0, .ref (ad 0)), (1, .int x1), (2, .int x2), (3, .int x3)] [] M (bX11_planNothing_2 n0 k2 x1 x2 x3 M) := by
  unfold bX11_planNothing_2
  refine b_iload_n hO dX11_planNothing_2 3 rfl rfl ?_
  refine b_aload_n hO dX11_planNothing_3 0 rfl rfl ?_
  refine b_getR hO flX11_19 kLX_0 (id := 1) rfl rfl (rk := 9) rfl (by decide) dX11_planNothing_4 (fun hg1 => ?_)
  refine b_get hO flX11_139 hg1 (v := .int (gI _ (128 * (gR M 1) + 5))) rfl dX11_planNothing_7 ?_
  refine b_icmp_ge hO dX11_planNothing_10 (tgt := 26) (by decide) ?_ ?_
  · refine b_iconst hO dX11_planNothing_26 ic_i_0 ?_
    refine b_istore_n hO dX11_planNothing_27 rfl (by decide) (lv' := [(3, .int _), (0, .ref _), (1, .int _), (2, .int _)]) rfl ?_
    refine b_sub [1, 2, 3, 0] rfl ?_
    exact tfX11_planNothing_28 n0 hO _ _ _ _
  · refine b_aload_n hO dX11_planNothing_13 0 rfl rfl ?_
    refine b_get hO flX11_79 kLX_0 (v := .ref (ad 28)) rfl dX11_planNothing_14 ?_
    refine b_iload_n hO dX11_planNothing_17 3 rfl rfl ?_
    refine b_iconst hO dX11_planNothing_18 ic_i_m1 ?_
    refine b_iast hO kLX_28 (n := 5) rfl dX11_planNothing_19 ?_
    refine b_bnd (fun M19 => ?_)
    refine b_iinc hO dX11_planNothing_20 3 rfl ic_i_1 (by decide) (lv' := [(3, .int _), (0, .ref _), (1, .int _), (2, .int _)]) rfl ?_
    refine b_goto hO dX11_planNothing_23 (tgt := 2) (by decide) ?_
    refine b_sub [1, 2, 3, 0] rfl ?_
    exact hk2 _ _ _ _
theorem lX11_planNothing_2 (n0 : Nat) (hO : OKc p (rmL 7) s m args meth c LX D cy ad cX11_planNothing RX11 4 7 (some .boolean)) : ∀ (w : Nat) (x1 : Int32) (x2 : Int32) (x3 : Int32) (M : Mem), BL p l e (rmL 7) s m args below meth c LX D cy ad 4 (QI LX D cy ad) 2 [(0, .ref (ad 0)), (1, .int x1), (2, .int x2), (3, .int x3)] [] M (loopN (bX11_planNothing_2 n0) (fun _ _ _ _ => none) w x1 x2 x3 M) := by
  intro w
  induction w with
  | zero =>
    intros
    exact b_none
  | succ w ih =>
    intro x1 x2 x3 M
    exact tbX11_planNothing_2 n0 hO _ ih x1 x2 x3 M
theorem tfX11_planNothing_2 (n0 : Nat) (hO : OKc p (rmL 7) s m args meth c LX D cy ad cX11_planNothing RX11 4 7 (some .boolean)) (x1 : Int32) (x2 : Int32) (x3 : Int32) (M : Mem) : BL p l e (rmL 7) s m args below meth c LX D cy ad 4 (QI LX D cy ad) 2 [(0, .ref (ad 0)), (1, .int x1), (2, .int x2), (3, .int x3)] [] M (fX11_planNothing_2 n0 x1 x2 x3 M) := lX11_planNothing_2 n0 hO n0 x1 x2 x3 M
theorem tfX11_planNothing (n0 : Nat) (hO : OKc p (rmL 7) s m args meth c LX D cy ad cX11_planNothing RX11 4 7 (some .boolean)) (x1 : Int32) (x2 : Int32) (M : Mem) : BL p l e (rmL 7) s m args below meth c LX D cy ad 4 (QI LX D cy ad) 0 [(0, .ref (ad 0)), (1, .int x1), (2, .int x2)] [] M (fX11_planNothing n0 x1 x2 M) := by
  unfold fX11_planNothing
  refine b_iconst hO dX11_planNothing_0 ic_i_0 ?_
  refine b_istore_n hO dX11_planNothing_1 rfl (by decide) (lv' := [(3, .int _), (0, .ref _), (1, .int _), (2, .int _)]) rfl ?_
  refine b_sub [1, 2, 3, 0] rfl ?_
  exact tfX11_planNothing_2 n0 hO _ _ _ _
theorem ctX11_planNothing (n0 : Nat) (hI : Inj LX ad) (x1 : Int32) (x2 : Int32) (M : Mem) : CT l LX D cy ad yX11_planNothing cX11_planNothing 4 (some .boolean) 7 (QI LX D cy ad) [.ref (ad 0), .int x1, .int x2] M (fX11_planNothing n0 x1 x2 M) :=
  CT.mk LXok hI (by decide) (Nat.le_of_ble_eq_true rfl) (fun hO => tfX11_planNothing n0 hO x1 x2 M)
/-! X11_findGiving -/
def bX11_findGiving_3 (n0 : Nat) (k3 : Int32 → Int32 → Int32 → Int32 → Mem → Option (Int32 × Mem)) (x1 : Int32) (x2 : Int32) (x3 : Int32) (x4 : Int32) (M : Mem) : Option (Int32 × Mem) :=
  if (gI M (128 * (gR M 1) + 1)) ≤ x4 then
    some ((-1 : Int32), M)
  else
    (fX1_hold n0 x1 x4 (0 : Int32) (gI M 1281) M).bind fun z30 =>
    (fX1_foresee n0 26 x3 z30).bind fun z46 =>
    (fX11_doesAll n0 x1 x2 (0 : Int32) z46.1 z46.2).bind fun z49 =>
    if z49.1 = 0 then
      k3 x1 x2 x3 (x4 + (1 : Int32)) z49.2
    else
      some (x4, z49.2)
def fX11_findGiving_3 (n0 : Nat) : Int32 → Int32 → Int32 → Int32 → Mem → Option (Int32 × Mem) := loopN (bX11_findGiving_3 n0) (fun _ _ _ _ _ => none) n0
def fX11_findGiving (n0 : Nat) (x1 : Int32) (x2 : Int32) (x3 : Int32) (M : Mem) : Option (Int32 × Mem) :=
  fX11_findGiving_3 n0 x1 x2 x3 (0 : Int32) M
theorem tbX11_findGiving_3 (n0 : Nat) (hO : OKc p (rmL 6) s m args meth c LX D cy ad cX11_findGiving RX11 5 6 (some .int)) (k3 : Int32 → Int32 → Int32 → Int32 → Mem → Option (Int32 × Mem)) (hk3 : ∀ (x1 : Int32) (x2 : Int32) (x3 : Int32) (x4 : Int32) (M : Mem), BL p l e (rmL 6) s m args below meth c LX D cy ad 5 (QI LX D cy ad) 3 [(0, .ref (ad 0)), (1, .int x1), (2, .int x2), (3, .int x3), (4, .int x4)] [] M (k3 x1 x2 x3 x4 M)) (x1 : Int32) (x2 : Int32) (x3 : Int32) (x4 : Int32) (M : Mem) : BL p l e (rmL 6) s m args below meth c LX D cy ad 5 (QI LX D cy ad) 3 [(0, .ref (ad 0)), (1, .int x1), (2, .int x2), (3, .int x3), (4, .int x4)] [] M (bX11_findGiving_3 n0 k3 x1 x2 x3 x4 M) := by
  unfold bX11_findGiving_3
  refine b_iload hO dX11_findGiving_3 4 rfl ?_
  refine b_aload_n hO dX11_findGiving_5 0 rfl rfl ?_
  refine b_getR hO flX11_19 kLX_0 (id := 1) rfl rfl (rk := 9) rfl (by decide) dX11_findGiving_6 (fun hg1 => ?_)
  refine b_get hO flX11_136 hg1 (v := .int (gI _ (128 * (gR M 1) + 1))) rfl dX11_findGiving_9 ?_
  refine b_icmp_ge hO dX11_findGiving_12 (tgt := 64) (by decide) ?_ ?_
  · refine b_iconst hO dX11_findGiving_64 ic_i_m1 ?_
    exact b_iret hO dX11_findGiving_65
  · refine b_aload_n hO dX11_findGiving_15 0 rfl rfl ?_
    refine b_get hO flX11_40 kLX_0 (v := .ref (ad 7)) rfl dX11_findGiving_16 ?_
    refine b_iload_n hO dX11_findGiving_19 1 rfl rfl ?_
    refine b_iload hO dX11_findGiving_20 4 rfl ?_
    refine b_iconst hO dX11_findGiving_22 ic_i_0 ?_
    refine b_aload_n hO dX11_findGiving_23 0 rfl rfl ?_
    refine b_get hO flX11_47 kLX_0 (v := .ref (ad 10)) rfl dX11_findGiving_24 ?_
    refine b_get hO flX11_148 kLX_10 (v := .int (gI _ 1281)) rfl dX11_findGiving_27 ?_
    refine b_callVV hO mdX1_hold mvX1_hold w952 (ci := 1) rfl rfl (by decide) kLX_7 (As := [.int _, .int _, .int _, .int _]) (st := []) (ctX1_hold n0 hO.2.2.2.2.2.2.1 _ _ _ _ _) (Nat.le_of_ble_eq_true rfl) rfl rfl (Nat.le_of_ble_eq_true rfl) dX11_findGiving_30 (fun z30 => ?_)
    refine b_aload_n hO dX11_findGiving_33 0 rfl rfl ?_
    refine b_iload_n hO dX11_findGiving_34 1 rfl rfl ?_
    refine b_iload_n hO dX11_findGiving_35 2 rfl rfl ?_
    refine b_iconst hO dX11_findGiving_36 ic_i_0 ?_
    refine b_aload_n hO dX11_findGiving_37 0 rfl rfl ?_
    refine b_get hO flX11_40 kLX_0 (v := .ref (ad 7)) rfl dX11_findGiving_38 ?_
    refine b_aload_n hO dX11_findGiving_41 0 rfl rfl ?_
    refine b_get hO flX11_72 kLX_0 (v := .ref (ad 26)) rfl dX11_findGiving_42 ?_
    refine b_iload_n hO dX11_findGiving_45 3 rfl rfl ?_
    refine b_callVI hO mdX1_foresee mvX1_foresee w970 (ci := 1) rfl rfl (by decide) kLX_7 (As := [.ref _, .int _]) (st := [.int _, .int _, .int _, .ref _]) (ctX1_foresee n0 _ kLX_26 hO.2.2.2.2.2.2.1 _ _) (Nat.le_of_ble_eq_true rfl) rfl rfl (Nat.le_of_ble_eq_true rfl) dX11_findGiving_46 (fun z46 => ?_)
    refine b_callVI hO mdX11_doesAll mvX11_doesAll w999 (ci := 11) rfl rfl (by decide) kLX_0 (As := [.int _, .int _, .int _, .int _]) (st := []) (ctX11_doesAll n0 hO.2.2.2.2.2.2.1 _ _ _ _ _) (Nat.le_of_ble_eq_true rfl) rfl rfl (Nat.le_of_ble_eq_true rfl) dX11_findGiving_49 (fun z49 => ?_)
    refine b_if_eq hO dX11_findGiving_52 (tgt := 58) (by decide) ?_ ?_
    · refine b_iinc hO dX11_findGiving_58 4 rfl ic_i_1 (by decide) (lv' := [(4, .int _), (0, .ref _), (1, .int _), (2, .int _), (3, .int _)]) rfl ?_
      refine b_goto hO dX11_findGiving_61 (tgt := 3) (by decide) ?_
      refine b_sub [1, 2, 3, 4, 0] rfl ?_
      exact hk3 _ _ _ _ _
    · refine b_iload hO dX11_findGiving_55 4 rfl ?_
      exact b_iret hO dX11_findGiving_57
theorem lX11_findGiving_3 (n0 : Nat) (hO : OKc p (rmL 6) s m args meth c LX D cy ad cX11_findGiving RX11 5 6 (some .int)) : ∀ (w : Nat) (x1 : Int32) (x2 : Int32) (x3 : Int32) (x4 : Int32) (M : Mem), BL p l e (rmL 6) s m args below meth c LX D cy ad 5 (QI LX D cy ad) 3 [(0, .ref (ad 0)), (1, .int x1), (2, .int x2), (3, .int x3), (4, .int x4)] [] M (loopN (bX11_findGiving_3 n0) (fun _ _ _ _ _ => none) w x1 x2 x3 x4 M) := by
  intro w
  induction w with
  | zero =>
    intros
    exact b_none
  | succ w ih =>
    intro x1 x2 x3 x4 M
    exact tbX11_findGiving_3 n0 hO _ ih x1 x2 x3 x4 M
theorem tfX11_findGiving_3 (n0 : Nat) (hO : OKc p (rmL 6) s m args meth c LX D cy ad cX11_findGiving RX11 5 6 (some .int)) (x1 : Int32) (x2 : Int32) (x3 : Int32) (x4 : Int32) (M : Mem) : BL p l e (rmL 6) s m args below meth c LX D cy ad 5 (QI LX D cy ad) 3 [(0, .ref (ad 0)), (1, .int x1), (2, .int x2), (3, .int x3), (4, .int x4)] [] M (fX11_findGiving_3 n0 x1 x2 x3 x4 M) := lX11_findGiving_3 n0 hO n0 x1 x2 x3 x4 M
theorem tfX11_findGiving (n0 : Nat) (hO : OKc p (rmL 6) s m args meth c LX D cy ad cX11_findGiving RX11 5 6 (some .int)) (x1 : Int32) (x2 : Int32) (x3 : Int32) (M : Mem) : BL p l e (rmL 6) s m args below meth c LX D cy ad 5 (QI LX D cy ad) 0 [(0, .ref (ad 0)), (1, .int x1), (2, .int x2), (3, .int x3)] [] M (fX11_findGiving n0 x1 x2 x3 M) := by
  unfold fX11_findGiving
  refine b_iconst hO dX11_findGiving_0 ic_i_0 ?_
  refine b_istore hO dX11_findGiving_1 (by decide) (lv' := [(4, .int _), (0, .ref _), (1, .int _), (2, .int _), (3, .int _)]) rfl ?_
  refine b_sub [1, 2, 3, 4, 0] rfl ?_
  exact tfX11_findGiving_3 n0 hO _ _ _ _ _
theorem ctX11_findGiving (n0 : Nat) (hI : Inj LX ad) (x1 : Int32) (x2 : Int32) (x3 : Int32) (M : Mem) : CT l LX D cy ad yX11_findGiving cX11_findGiving 5 (some .int) 6 (QI LX D cy ad) [.ref (ad 0), .int x1, .int x2, .int x3] M (fX11_findGiving n0 x1 x2 x3 M) :=
  CT.mk LXok hI (by decide) (Nat.le_of_ble_eq_true rfl) (fun hO => tfX11_findGiving n0 hO x1 x2 x3 M)
/-! X11_planNeeded -/
def fX11_planNeeded_49 (n0 : Nat) (k2 : Int32 → Int32 → Int32 → Mem → Option (Int32 × Mem)) (x1 : Int32) (x2 : Int32) (x3 : Int32) (M : Mem) : Option (Int32 × Mem) :=
  k2 x1 x2 (x3 + (1 : Int32)) M
def bX11_planNeeded_2 (n0 : Nat) (k2 : Int32 → Int32 → Int32 → Mem → Option (Int32 × Mem)) (x1 : Int32) (x2 : Int32) (x3 : Int32) (M : Mem) : Option (Int32 × Mem) :=
  if (gI M (128 * (gR M 1) + 5)) ≤ x3 then
    some ((1 : Int32), M)
  else
    (fX11_doesWithout n0 x3 x1 (0 : Int32) x2 M).bind fun z18 =>
    if z18.1 = 0 then
      (fX11_findGiving n0 x3 x1 x2 z18.2).bind fun z33 =>
      if oob x3 5 then none else
      bnd (sA z33.2 28 (Int32.toNatClampNeg x3) z33.1) fun M36 =>
      if oob x3 5 then none else
      if (gA M36 28 (Int32.toNatClampNeg x3)) = (-1 : Int32) then
        some ((0 : Int32), M36)
      else
        fX11_planNeeded_49 n0 k2 x1 x2 x3 M36
    else
      fX11_planNeeded_49 n0 k2 x1 x2 x3 z18.2
def fX11_planNeeded_2 (n0 : Nat) : Int32 → Int32 → Int32 → Mem → Option (Int32 × Mem) := loopN (bX11_planNeeded_2 n0) (fun _ _ _ _ => none) n0
def fX11_planNeeded (n0 : Nat) (x1 : Int32) (x2 : Int32) (M : Mem) : Option (Int32 × Mem) :=
  fX11_planNeeded_2 n0 x1 x2 (0 : Int32) M
theorem tfX11_planNeeded_49 (n0 : Nat) (hO : OKc p (rmL 7) s m args meth c LX D cy ad cX11_planNeeded RX11 4 7 (some .boolean)) (k2 : Int32 → Int32 → Int32 → Mem → Option (Int32 × Mem)) (hk2 : ∀ (x1 : Int32) (x2 : Int32) (x3 : Int32) (M : Mem), BL p l e (rmL 7) s m args below meth c LX D cy ad 4 (QI LX D cy ad) 2 [(0, .ref (ad 0)), (1, .int x1), (2, .int x2), (3, .int x3)] [] M (k2 x1 x2 x3 M)) (x1 : Int32) (x2 : Int32) (x3 : Int32) (M : Mem) : BL p l e (rmL 7) s m args below meth c LX D cy ad 4 (QI LX D cy ad) 49 [(0, .ref (ad 0)), (1, .int x1), (2, .int x2), (3, .int x3)] [] M (fX11_planNeeded_49 n0 k2 x1 x2 x3 M) := by
  unfold fX11_planNeeded_49
  refine b_iinc hO dX11_planNeeded_49 3 rfl ic_i_1 (by decide) (lv' := [(3, .int _), (0, .ref _), (1, .int _), (2, .int _)]) rfl ?_
  refine b_goto hO dX11_planNeeded_52 (tgt := 2) (by decide) ?_
  refine b_sub [1, 2, 3, 0] rfl ?_
  exact hk2 _ _ _ _
theorem tbX11_planNeeded_2 (n0 : Nat) (hO : OKc p (rmL 7) s m args meth c LX D cy ad cX11_planNeeded RX11 4 7 (some .boolean)) (k2 : Int32 → Int32 → Int32 → Mem → Option (Int32 × Mem)) (hk2 : ∀ (x1 : Int32) (x2 : Int32) (x3 : Int32) (M : Mem), BL p l e (rmL 7) s m args below meth c LX D cy ad 4 (QI LX D cy ad) 2 [(0, .ref (ad 0)), (1, .int x1), (2, .int x2), (3, .int x3)] [] M (k2 x1 x2 x3 M)) (x1 : Int32) (x2 : Int32) (x3 : Int32) (M : Mem) : BL p l e (rmL 7) s m args below meth c LX D cy ad 4 (QI LX D cy ad) 2 [(0, .ref (ad 0)), (1, .int x1), (2, .int x2), (3, .int x3)] [] M (bX11_planNeeded_2 n0 k2 x1 x2 x3 M) := by
  unfold bX11_planNeeded_2
  refine b_iload_n hO dX11_planNeeded_2 3 rfl rfl ?_
  refine b_aload_n hO dX11_planNeeded_3 0 rfl rfl ?_
  refine b_getR hO flX11_19 kLX_0 (id := 1) rfl rfl (rk := 9) rfl (by decide) dX11_planNeeded_4 (fun hg1 => ?_)
  refine b_get hO flX11_139 hg1 (v := .int (gI _ (128 * (gR M 1) + 5))) rfl dX11_planNeeded_7 ?_
  refine b_icmp_ge hO dX11_planNeeded_10 (tgt := 55) (by decide) ?_ ?_
  · refine b_iconst hO dX11_planNeeded_55 ic_i_1 ?_
    exact b_zretc hO (Or.inr rfl) dX11_planNeeded_56
  · refine b_aload_n hO dX11_planNeeded_13 0 rfl rfl ?_
    refine b_iload_n hO dX11_planNeeded_14 3 rfl rfl ?_
    refine b_iload_n hO dX11_planNeeded_15 1 rfl rfl ?_
    refine b_iconst hO dX11_planNeeded_16 ic_i_0 ?_
    refine b_iload_n hO dX11_planNeeded_17 2 rfl rfl ?_
    refine b_callVI hO mdX11_doesWithout mvX11_doesWithout w995 (ci := 11) rfl rfl (by decide) kLX_0 (As := [.int _, .int _, .int _, .int _]) (st := []) (ctX11_doesWithout n0 hO.2.2.2.2.2.2.1 _ _ _ _ _) (Nat.le_of_ble_eq_true rfl) rfl rfl (Nat.le_of_ble_eq_true rfl) dX11_planNeeded_18 (fun z18 => ?_)
    refine b_if_ne hO dX11_planNeeded_21 (tgt := 49) (by decide) ?_ ?_
    · exact tfX11_planNeeded_49 n0 hO k2 hk2 _ _ _ _
    · refine b_aload_n hO dX11_planNeeded_24 0 rfl rfl ?_
      refine b_get hO flX11_79 kLX_0 (v := .ref (ad 28)) rfl dX11_planNeeded_25 ?_
      refine b_iload_n hO dX11_planNeeded_28 3 rfl rfl ?_
      refine b_aload_n hO dX11_planNeeded_29 0 rfl rfl ?_
      refine b_iload_n hO dX11_planNeeded_30 3 rfl rfl ?_
      refine b_iload_n hO dX11_planNeeded_31 1 rfl rfl ?_
      refine b_iload_n hO dX11_planNeeded_32 2 rfl rfl ?_
      refine b_callVI hO mdX11_findGiving mvX11_findGiving w1011 (ci := 11) rfl rfl (by decide) kLX_0 (As := [.int _, .int _, .int _]) (st := [.int _, .ref _]) (ctX11_findGiving n0 hO.2.2.2.2.2.2.1 _ _ _ _) (Nat.le_of_ble_eq_true rfl) rfl rfl (Nat.le_of_ble_eq_true rfl) dX11_planNeeded_33 (fun z33 => ?_)
      refine b_iast hO kLX_28 (n := 5) rfl dX11_planNeeded_36 ?_
      refine b_bnd (fun M36 => ?_)
      refine b_aload_n hO dX11_planNeeded_37 0 rfl rfl ?_
      refine b_get hO flX11_79 kLX_0 (v := .ref (ad 28)) rfl dX11_planNeeded_38 ?_
      refine b_iload_n hO dX11_planNeeded_41 3 rfl rfl ?_
      refine b_iald hO kLX_28 (n := 5) rfl dX11_planNeeded_42 ?_
      refine b_iconst hO dX11_planNeeded_43 ic_i_m1 ?_
      refine b_icmp_ne hO dX11_planNeeded_44 (tgt := 49) (by decide) ?_ ?_
      · exact tfX11_planNeeded_49 n0 hO k2 hk2 _ _ _ _
      · refine b_iconst hO dX11_planNeeded_47 ic_i_0 ?_
        exact b_zretc hO (Or.inl rfl) dX11_planNeeded_48
theorem lX11_planNeeded_2 (n0 : Nat) (hO : OKc p (rmL 7) s m args meth c LX D cy ad cX11_planNeeded RX11 4 7 (some .boolean)) : ∀ (w : Nat) (x1 : Int32) (x2 : Int32) (x3 : Int32) (M : Mem), BL p l e (rmL 7) s m args below meth c LX D cy ad 4 (QI LX D cy ad) 2 [(0, .ref (ad 0)), (1, .int x1), (2, .int x2), (3, .int x3)] [] M (loopN (bX11_planNeeded_2 n0) (fun _ _ _ _ => none) w x1 x2 x3 M) := by
  intro w
  induction w with
  | zero =>
    intros
    exact b_none
  | succ w ih =>
    intro x1 x2 x3 M
    exact tbX11_planNeeded_2 n0 hO _ ih x1 x2 x3 M
theorem tfX11_planNeeded_2 (n0 : Nat) (hO : OKc p (rmL 7) s m args meth c LX D cy ad cX11_planNeeded RX11 4 7 (some .boolean)) (x1 : Int32) (x2 : Int32) (x3 : Int32) (M : Mem) : BL p l e (rmL 7) s m args below meth c LX D cy ad 4 (QI LX D cy ad) 2 [(0, .ref (ad 0)), (1, .int x1), (2, .int x2), (3, .int x3)] [] M (fX11_planNeeded_2 n0 x1 x2 x3 M) := lX11_planNeeded_2 n0 hO n0 x1 x2 x3 M
theorem tfX11_planNeeded (n0 : Nat) (hO : OKc p (rmL 7) s m args meth c LX D cy ad cX11_planNeeded RX11 4 7 (some .boolean)) (x1 : Int32) (x2 : Int32) (M : Mem) : BL p l e (rmL 7) s m args below meth c LX D cy ad 4 (QI LX D cy ad) 0 [(0, .ref (ad 0)), (1, .int x1), (2, .int x2)] [] M (fX11_planNeeded n0 x1 x2 M) := by
  unfold fX11_planNeeded
  refine b_iconst hO dX11_planNeeded_0 ic_i_0 ?_
  refine b_istore_n hO dX11_planNeeded_1 rfl (by decide) (lv' := [(3, .int _), (0, .ref _), (1, .int _), (2, .int _)]) rfl ?_
  refine b_sub [1, 2, 3, 0] rfl ?_
  exact tfX11_planNeeded_2 n0 hO _ _ _ _
theorem ctX11_planNeeded (n0 : Nat) (hI : Inj LX ad) (x1 : Int32) (x2 : Int32) (M : Mem) : CT l LX D cy ad yX11_planNeeded cX11_planNeeded 4 (some .boolean) 7 (QI LX D cy ad) [.ref (ad 0), .int x1, .int x2] M (fX11_planNeeded n0 x1 x2 M) :=
  CT.mk LXok hI (by decide) (Nat.le_of_ble_eq_true rfl) (fun hO => tfX11_planNeeded n0 hO x1 x2 M)
end
end
