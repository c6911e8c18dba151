section
section
variable {p : Program} {l : Launch} {e : Env} {s : State} {m : MethodId} {args : Array Value} {below : List Frame} {meth : Method} {c : Code} {D : va_G} {cy : Nat → ClassId} {ad : Nat → Nat} {dd : Nat}

/-! X6_put -/
def fX6_put (n0 : Nat) (x1 : Int32) (x2 : Int32) (M : Mem) : Option (Mem) :=
  if x1 < 0 then
    some M
  else
    if (5 : Int32) ≤ x1 then
      some M
    else
      if oob x1 5 then none else
      bnd (sA M 11 (Int32.toNatClampNeg x1) x2) fun M15 =>
      if oob x1 5 then none else
      some (sA M15 12 (Int32.toNatClampNeg x1) (0 : Int32))
theorem tfX6_put (n0 : Nat) (hO : OKc p (rmL 1) s m args meth c LX D cy ad cX6_put RX6 3 1 none) (x1 : Int32) (x2 : Int32) (M : Mem) : BL p l e (rmL 1) s m args below meth c LX D cy ad 3 (QV LX D cy ad) 0 [(0, .ref (ad 10)), (1, .int x1), (2, .int x2)] [] M (fX6_put n0 x1 x2 M) := by
  unfold fX6_put
  refine b_iload_n hO dX6_put_0 1 rfl rfl ?_
  refine b_if_lt hO dX6_put_1 (tgt := 23) (by decide) ?_ ?_
  · exact b_vret hO dX6_put_23
  · refine b_iload_n hO dX6_put_4 1 rfl rfl ?_
    refine b_iconst hO dX6_put_5 ic_i_5 ?_
    refine b_icmp_ge hO dX6_put_6 (tgt := 23) (by decide) ?_ ?_
    · exact b_vret hO dX6_put_23
    · refine b_aload_n hO dX6_put_9 0 rfl rfl ?_
      refine b_get hO flX6_15 kLX_10 (v := .ref (ad 11)) rfl dX6_put_10 ?_
      refine b_iload_n hO dX6_put_13 1 rfl rfl ?_
      refine b_iload_n hO dX6_put_14 2 rfl rfl ?_
      refine b_iast hO kLX_11 (n := 5) rfl dX6_put_15 ?_
      refine b_bnd (fun M15 => ?_)
      refine b_aload_n hO dX6_put_16 0 rfl rfl ?_
      refine b_get hO flX6_19 kLX_10 (v := .ref (ad 12)) rfl dX6_put_17 ?_
      refine b_iload_n hO dX6_put_20 1 rfl rfl ?_
      refine b_iconst hO dX6_put_21 ic_i_0 ?_
      refine b_iast hO kLX_12 (n := 5) rfl dX6_put_22 ?_
      exact b_vret hO dX6_put_23
theorem ctX6_put (n0 : Nat) (hI : Inj LX ad) (x1 : Int32) (x2 : Int32) (M : Mem) : CT l LX D cy ad yX6_put cX6_put 3 none 1 (QV LX D cy ad) [.ref (ad 10), .int x1, .int x2] M (fX6_put n0 x1 x2 M) :=
  CT.mk LXok hI (by decide) (Nat.le_of_ble_eq_true rfl) (fun hO => tfX6_put n0 hO x1 x2 M)
/-! X6_begin -/
def bX6_begin_50 (n0 : Nat) (q1 : Nat) (k50 : Int32 → Mem → Option (Mem)) (x2 : Int32) (M : Mem) : Option (Mem) :=
  if (gI M (128 * (gR M 1280) + 12)) ≤ x2 then
    some M
  else
    if oob x2 6 then none else
    bnd (sA M 13 (Int32.toNatClampNeg x2) (0 : Int32)) fun M67 =>
    k50 (x2 + (1 : Int32)) M67
def fX6_begin_50 (n0 : Nat) (q1 : Nat) : Int32 → Mem → Option (Mem) := loopN (bX6_begin_50 n0 q1) (fun _ _ => none) n0
def bX6_begin_17 (n0 : Nat) (q1 : Nat) (k17 : Int32 → Mem → Option (Mem)) (x2 : Int32) (M : Mem) : Option (Mem) :=
  if (gI M (128 * (gR M 1280) + 5)) ≤ x2 then
    fX6_begin_50 n0 q1 (0 : Int32) M
  else
    if oob x2 5 then none else
    (fX6_put n0 x2 (gA M ((gR M 1280) + 5) (Int32.toNatClampNeg x2)) M).bind fun z39 =>
    k17 (x2 + (1 : Int32)) z39
def fX6_begin_17 (n0 : Nat) (q1 : Nat) : Int32 → Mem → Option (Mem) := loopN (bX6_begin_17 n0 q1) (fun _ _ => none) n0
def fX6_begin (n0 : Nat) (q1 : Nat) (M : Mem) : Option (Mem) :=
  bnd (sR M 1280 q1) fun M2 =>
  bnd (sI M2 1281 (0 : Int32)) fun M7 =>
  bnd (sI M7 1285 (0 : Int32)) fun M12 =>
  fX6_begin_17 n0 q1 (0 : Int32) M12
theorem tbX6_begin_50 (n0 : Nat) (q1 : Nat) (hq1 : isK LX q1 9) (hO : OKc p (rmL 2) s m args meth c LX D cy ad cX6_begin RX6 3 2 none) (k50 : Int32 → Mem → Option (Mem)) (hk50 : ∀ (x2 : Int32) (M : Mem), BL p l e (rmL 2) s m args below meth c LX D cy ad 3 (QV LX D cy ad) 50 [(0, .ref (ad 10)), (2, .int x2)] [] M (k50 x2 M)) (x2 : Int32) (M : Mem) : BL p l e (rmL 2) s m args below meth c LX D cy ad 3 (QV LX D cy ad) 50 [(0, .ref (ad 10)), (2, .int x2)] [] M (bX6_begin_50 n0 q1 k50 x2 M) := by
  unfold bX6_begin_50
  refine b_iload_n hO dX6_begin_50 1 rfl rfl ?_
  refine b_aload_n hO dX6_begin_51 0 rfl rfl ?_
  refine b_getR hO flX6_34 kLX_10 (id := 1280) rfl rfl (rk := 9) rfl (by decide) dX6_begin_52 (fun hg1 => ?_)
  refine b_get hO flX6_50 hg1 (v := .int (gI _ (128 * (gR M 1280) + 12))) rfl dX6_begin_55 ?_
  refine b_icmp_ge hO dX6_begin_58 (tgt := 74) (by decide) ?_ ?_
  · exact b_vret hO dX6_begin_74
  · refine b_aload_n hO dX6_begin_61 0 rfl rfl ?_
    refine b_get hO flX6_22 kLX_10 (v := .ref (ad 13)) rfl dX6_begin_62 ?_
    refine b_iload_n hO dX6_begin_65 1 rfl rfl ?_
    refine b_iconst hO dX6_begin_66 ic_i_0 ?_
    refine b_iast hO kLX_13 (n := 6) rfl dX6_begin_67 ?_
    refine b_bnd (fun M67 => ?_)
    refine b_iinc hO dX6_begin_68 1 rfl ic_i_1 (by decide) (lv' := [(2, .int _), (0, .ref _)]) rfl ?_
    refine b_goto hO dX6_begin_71 (tgt := 50) (by decide) ?_
    refine b_sub [1, 0] rfl ?_
    exact hk50 _ _
theorem lX6_begin_50 (n0 : Nat) (q1 : Nat) (hq1 : isK LX q1 9) (hO : OKc p (rmL 2) s m args meth c LX D cy ad cX6_begin RX6 3 2 none) : ∀ (w : Nat) (x2 : Int32) (M : Mem), BL p l e (rmL 2) s m args below meth c LX D cy ad 3 (QV LX D cy ad) 50 [(0, .ref (ad 10)), (2, .int x2)] [] M (loopN (bX6_begin_50 n0 q1) (fun _ _ => none) w x2 M) := by
  intro w
  induction w with
  | zero =>
    intros
    exact b_none
  | succ w ih =>
    intro x2 M
    exact tbX6_begin_50 n0 q1 hq1 hO _ ih x2 M
theorem tfX6_begin_50 (n0 : Nat) (q1 : Nat) (hq1 : isK LX q1 9) (hO : OKc p (rmL 2) s m args meth c LX D cy ad cX6_begin RX6 3 2 none) (x2 : Int32) (M : Mem) : BL p l e (rmL 2) s m args below meth c LX D cy ad 3 (QV LX D cy ad) 50 [(0, .ref (ad 10)), (2, .int x2)] [] M (fX6_begin_50 n0 q1 x2 M) := lX6_begin_50 n0 q1 hq1 hO n0 x2 M
theorem tbX6_begin_17 (n0 : Nat) (q1 : Nat) (hq1 : isK LX q1 9) (hO : OKc p (rmL 2) s m args meth c LX D cy ad cX6_begin RX6 3 2 none) (k17 : Int32 → Mem → Option (Mem)) (hk17 : ∀ (x2 : Int32) (M : Mem), BL p l e (rmL 2) s m args below meth c LX D cy ad 3 (QV LX D cy ad) 17 [(0, .ref (ad 10)), (2, .int x2)] [] M (k17 x2 M)) (x2 : Int32) (M : Mem) : BL p l e (rmL 2) s m args below meth c LX D cy ad 3 (QV LX D cy ad) 17 [(0, .ref (ad 10)), (2, .int x2)] [] M (bX6_begin_17 n0 q1 k17 x2 M) := by
  unfold bX6_begin_17
  refine b_iload_n hO dX6_begin_17 1 rfl rfl ?_
  refine b_aload_n hO dX6_begin_18 0 rfl rfl ?_
  refine b_getR hO flX6_34 kLX_10 (id := 1280) rfl rfl (rk := 9) rfl (by decide) dX6_begin_19 (fun hg1 => ?_)
  refine b_get hO flX6_38 hg1 (v := .int (gI _ (128 * (gR M 1280) + 5))) rfl dX6_begin_22 ?_
  refine b_icmp_ge hO dX6_begin_25 (tgt := 48) (by decide) ?_ ?_
  · refine b_iconst hO dX6_begin_48 ic_i_0 ?_
    refine b_istore_n hO dX6_begin_49 rfl (by decide) (lv' := [(2, .int _), (0, .ref _)]) rfl ?_
    refine b_sub [1, 0] rfl ?_
    exact tfX6_begin_50 n0 q1 hq1 hO _ _
  · refine b_aload_n hO dX6_begin_28 0 rfl rfl ?_
    refine b_iload_n hO dX6_begin_29 1 rfl rfl ?_
    refine b_aload_n hO dX6_begin_30 0 rfl rfl ?_
    refine b_getR hO flX6_34 kLX_10 (id := 1280) rfl rfl (rk := 9) rfl (by decide) dX6_begin_31 (fun hg2 => ?_)
    refine b_get hO flX6_43 hg2 (v := .ref (ad ((gR M 1280) + 5))) rfl dX6_begin_34 ?_
    refine b_iload_n hO dX6_begin_37 1 rfl rfl ?_
    refine b_iald hO (kt_9_5 hg2) (n := 5) (lt_9_5 hg2) dX6_begin_38 ?_
    refine b_callVV hO mdX6_put mvX6_put w548 (ci := 6) rfl rfl (by decide) kLX_10 (As := [.int _, .int _]) (st := []) (ctX6_put n0 hO.2.2.2.2.2.2.1 _ _ _) (Nat.le_of_ble_eq_true rfl) rfl rfl (Nat.le_of_ble_eq_true rfl) dX6_begin_39 (fun z39 => ?_)
    refine b_iinc hO dX6_begin_42 1 rfl ic_i_1 (by decide) (lv' := [(2, .int _), (0, .ref _)]) rfl ?_
    refine b_goto hO dX6_begin_45 (tgt := 17) (by decide) ?_
    refine b_sub [1, 0] rfl ?_
    exact hk17 _ _
theorem lX6_begin_17 (n0 : Nat) (q1 : Nat) (hq1 : isK LX q1 9) (hO : OKc p (rmL 2) s m args meth c LX D cy ad cX6_begin RX6 3 2 none) : ∀ (w : Nat) (x2 : Int32) (M : Mem), BL p l e (rmL 2) s m args below meth c LX D cy ad 3 (QV LX D cy ad) 17 [(0, .ref (ad 10)), (2, .int x2)] [] M (loopN (bX6_begin_17 n0 q1) (fun _ _ => none) w x2 M) := by
  intro w
  induction w with
  | zero =>
    intros
    exact b_none
  | succ w ih =>
    intro x2 M
    exact tbX6_begin_17 n0 q1 hq1 hO _ ih x2 M
theorem tfX6_begin_17 (n0 : Nat) (q1 : Nat) (hq1 : isK LX q1 9) (hO : OKc p (rmL 2) s m args meth c LX D cy ad cX6_begin RX6 3 2 none) (x2 : Int32) (M : Mem) : BL p l e (rmL 2) s m args below meth c LX D cy ad 3 (QV LX D cy ad) 17 [(0, .ref (ad 10)), (2, .int x2)] [] M (fX6_begin_17 n0 q1 x2 M) := lX6_begin_17 n0 q1 hq1 hO n0 x2 M
theorem tfX6_begin (n0 : Nat) (q1 : Nat) (hq1 : isK LX q1 9) (hO : OKc p (rmL 2) s m args meth c LX D cy ad cX6_begin RX6 3 2 none) (M : Mem) : BL p l e (rmL 2) s m args below meth c LX D cy ad 3 (QV LX D cy ad) 0 [(0, .ref (ad 10)), (1, .ref (ad q1))] [] M (fX6_begin n0 q1 M) := by
  unfold fX6_begin
  refine b_aload_n hO dX6_begin_0 0 rfl rfl ?_
  refine b_aload_n hO dX6_begin_1 1 rfl rfl ?_
  refine b_putR hO flX6_34 kLX_10 rfl (id := 1280) rfl hq1 rfl rfl dX6_begin_2 ?_
  refine b_bnd (fun M2 => ?_)
  refine b_aload_n hO dX6_begin_5 0 rfl rfl ?_
  refine b_iconst hO dX6_begin_6 ic_i_0 ?_
  refine b_putI hO flX6_9 kLX_10 rfl rfl rfl (id := 1281) rfl dX6_begin_7 ?_
  refine b_bnd (fun M7 => ?_)
  refine b_aload_n hO dX6_begin_10 0 rfl rfl ?_
  refine b_iconst hO dX6_begin_11 ic_i_0 ?_
  refine b_putI hO flX6_25 kLX_10 rfl rfl rfl (id := 1285) rfl dX6_begin_12 ?_
  refine b_bnd (fun M12 => ?_)
  refine b_iconst hO dX6_begin_15 ic_i_0 ?_
  refine b_istore_n hO dX6_begin_16 rfl (by decide) (lv' := [(2, .int _), (0, .ref _), (1, .ref _)]) rfl ?_
  refine b_sub [1, 0] rfl ?_
  exact tfX6_begin_17 n0 q1 hq1 hO _ _
theorem ctX6_begin (n0 : Nat) (q1 : Nat) (hq1 : isK LX q1 9) (hI : Inj LX ad) (M : Mem) : CT l LX D cy ad yX6_begin cX6_begin 3 none 2 (QV LX D cy ad) [.ref (ad 10), .ref (ad q1)] M (fX6_begin n0 q1 M) :=
  CT.mk LXok hI (by decide) (Nat.le_of_ble_eq_true rfl) (fun hO => tfX6_begin n0 q1 hq1 hO M)
/-! X6_countDone -/
def bX6_countDone_4 (n0 : Nat) (k4 : Int32 → Int32 → Mem → Option (Int32 × Mem)) (x1 : Int32) (x2 : Int32) (M : Mem) : Option (Int32 × Mem) :=
  if (gI M (128 * (gR M 1280) + 12)) ≤ x2 then
    some (x1, M)
  else
    if oob x2 6 then none else
    bnd (x1 + (gA M 13 (Int32.toNatClampNeg x2))) fun x1_23 =>
    k4 x1_23 (x2 + (1 : Int32)) M
def fX6_countDone_4 (n0 : Nat) : Int32 → Int32 → Mem → Option (Int32 × Mem) := loopN (bX6_countDone_4 n0) (fun _ _ _ => none) n0
def fX6_countDone (n0 : Nat) (M : Mem) : Option (Int32 × Mem) :=
  fX6_countDone_4 n0 (0 : Int32) (0 : Int32) M
theorem tbX6_countDone_4 (n0 : Nat) (hO : OKc p (rmL 1) s m args meth c LX D cy ad cX6_countDone RX6 3 1 (some .int)) (k4 : Int32 → Int32 → Mem → Option (Int32 × Mem)) (hk4 : ∀ (x1 : Int32) (x2 : Int32) (M : Mem), BL p l e (rmL 1) s m args below meth c LX D cy ad 3 (QI LX D cy ad) 4 [(0, .ref (ad 10)), (1, .int x1), (2, .int x2)] [] M (k4 x1 x2 M)) (x1 : Int32) (x2 : Int32) (M : Mem) : BL p l e (rmL 1) s m args below meth c LX D cy ad 3 (QI LX D cy ad) 4 [(0, .ref (ad 10)), (1, .int x1), (2, .int x2)] [] M (bX6_countDone_4 n0 k4 x1 x2 M) := by
  unfold bX6_countDone_4
  refine b_iload_n hO dX6_countDone_4 2 rfl rfl ?_
  refine b_aload_n hO dX6_countDone_5 0 rfl rfl ?_
  refine b_getR hO flX6_34 kLX_10 (id := 1280) rfl rfl (rk := 9) rfl (by decide) dX6_countDone_6 (fun hg1 => ?_)
  refine b_get hO flX6_50 hg1 (v := .int (gI _ (128 * (gR M 1280) + 12))) rfl dX6_countDone_9 ?_
  refine b_icmp_ge hO dX6_countDone_12 (tgt := 30) (by decide) ?_ ?_
  · refine b_iload_n hO dX6_countDone_30 1 rfl rfl ?_
    exact b_iret hO dX6_countDone_31
  · refine b_iload_n hO dX6_countDone_15 1 rfl rfl ?_
    refine b_aload_n hO dX6_countDone_16 0 rfl rfl ?_
    refine b_get hO flX6_22 kLX_10 (v := .ref (ad 13)) rfl dX6_countDone_17 ?_
    refine b_iload_n hO dX6_countDone_20 2 rfl rfl ?_
    refine b_iald hO kLX_13 (n := 6) rfl dX6_countDone_21 ?_
    refine b_iadd hO dX6_countDone_22 ?_
    refine b_topI (fun x1_23 => ?_)
    refine b_istore_n hO dX6_countDone_23 rfl (by decide) (lv' := [(1, .int _), (0, .ref _), (2, .int _)]) rfl ?_
    refine b_iinc hO dX6_countDone_24 2 rfl ic_i_1 (by decide) (lv' := [(2, .int _), (1, .int _), (0, .ref _)]) rfl ?_
    refine b_goto hO dX6_countDone_27 (tgt := 4) (by decide) ?_
    refine b_sub [2, 1, 0] rfl ?_
    exact hk4 _ _ _
theorem lX6_countDone_4 (n0 : Nat) (hO : OKc p (rmL 1) s m args meth c LX D cy ad cX6_countDone RX6 3 1 (some .int)) : ∀ (w : Nat) (x1 : Int32) (x2 : Int32) (M : Mem), BL p l e (rmL 1) s m args below meth c LX D cy ad 3 (QI LX D cy ad) 4 [(0, .ref (ad 10)), (1, .int x1), (2, .int x2)] [] M (loopN (bX6_countDone_4 n0) (fun _ _ _ => none) w x1 x2 M) := by
  intro w
  induction w with
  | zero =>
    intros
    exact b_none
  | succ w ih =>
    intro x1 x2 M
    exact tbX6_countDone_4 n0 hO _ ih x1 x2 M
theorem tfX6_countDone_4 (n0 : Nat) (hO : OKc p (rmL 1) s m args meth c LX D cy ad cX6_countDone RX6 3 1 (some .int)) (x1 : Int32) (x2 : Int32) (M : Mem) : BL p l e (rmL 1) s m args below meth c LX D cy ad 3 (QI LX D cy ad) 4 [(0, .ref (ad 10)), (1, .int x1), (2, .int x2)] [] M (fX6_countDone_4 n0 x1 x2 M) := lX6_countDone_4 n0 hO n0 x1 x2 M
theorem tfX6_countDone (n0 : Nat) (hO : OKc p (rmL 1) s m args meth c LX D cy ad cX6_countDone RX6 3 1 (some .int)) (M : Mem) : BL p l e (rmL 1) s m args below meth c LX D cy ad 3 (QI LX D cy ad) 0 [(0, .ref (ad 10))] [] M (fX6_countDone n0 M) := by
  unfold fX6_countDone
  refine b_iconst hO dX6_countDone_0 ic_i_0 ?_
  refine b_istore_n hO dX6_countDone_1 rfl (by decide) (lv' := [(1, .int _), (0, .ref _)]) rfl ?_
  refine b_iconst hO dX6_countDone_2 ic_i_0 ?_
  refine b_istore_n hO dX6_countDone_3 rfl (by decide) (lv' := [(2, .int _), (1, .int _), (0, .ref _)]) rfl ?_
  refine b_sub [2, 1, 0] rfl ?_
  exact tfX6_countDone_4 n0 hO _ _ _
theorem ctX6_countDone (n0 : Nat) (hI : Inj LX ad) (M : Mem) : CT l LX D cy ad yX6_countDone cX6_countDone 3 (some .int) 1 (QI LX D cy ad) [.ref (ad 10)] M (fX6_countDone n0 M) :=
  CT.mk LXok hI (by decide) (Nat.le_of_ble_eq_true rfl) (fun hO => tfX6_countDone n0 hO M)
/-! X6_countEmpty -/
def fX6_countEmpty_28 (n0 : Nat) (k4 : Int32 → Int32 → Mem → Option (Int32 × Mem)) (x1 : Int32) (x2 : Int32) (M : Mem) : Option (Int32 × Mem) :=
  k4 x1 (x2 + (1 : Int32)) M
def bX6_countEmpty_4 (n0 : Nat) (k4 : Int32 → Int32 → Mem → Option (Int32 × Mem)) (x1 : Int32) (x2 : Int32) (M : Mem) : Option (Int32 × Mem) :=
  if (gI M (128 * (gR M 1280) + 5)) ≤ x2 then
    some (x1, M)
  else
    if oob x2 5 then none else
    if (gA M 11 (Int32.toNatClampNeg x2)) = (-1 : Int32) then
      fX6_countEmpty_28 n0 k4 (x1 + (1 : Int32)) x2 M
    else
      fX6_countEmpty_28 n0 k4 x1 x2 M
def fX6_countEmpty_4 (n0 : Nat) : Int32 → Int32 → Mem → Option (Int32 × Mem) := loopN (bX6_countEmpty_4 n0) (fun _ _ _ => none) n0
def fX6_countEmpty (n0 : Nat) (M : Mem) : Option (Int32 × Mem) :=
  fX6_countEmpty_4 n0 (0 : Int32) (0 : Int32) M
theorem tfX6_countEmpty_28 (n0 : Nat) (hO : OKc p (rmL 1) s m args meth c LX D cy ad cX6_countEmpty RX6 3 1 (some .int)) (k4 : Int32 → Int32 → Mem → Option (Int32 × Mem)) (hk4 : ∀ (x1 : Int32) (x2 : Int32) (M : Mem), BL p l e (rmL 1) s m args below meth c LX D cy ad 3 (QI LX D cy ad) 4 [(0, .ref (ad 10)), (1, .int x1), (2, .int x2)] [] M (k4 x1 x2 M)) (x1 : Int32) (x2 : Int32) (M : Mem) : BL p l e (rmL 1) s m args below meth c LX D cy ad 3 (QI LX D cy ad) 28 [(0, .ref (ad 10)), (1, .int x1), (2, .int x2)] [] M (fX6_countEmpty_28 n0 k4 x1 x2 M) := by
  unfold fX6_countEmpty_28
  refine b_iinc hO dX6_countEmpty_28 2 rfl ic_i_1 (by decide) (lv' := [(2, .int _), (0, .ref _), (1, .int _)]) rfl ?_
  refine b_goto hO dX6_countEmpty_31 (tgt := 4) (by decide) ?_
  refine b_sub [1, 2, 0] rfl ?_
  exact hk4 _ _ _
theorem tbX6_countEmpty_4 (n0 : Nat) (hO : OKc p (rmL 1) s m args meth c LX D cy ad cX6_countEmpty RX6 3 1 (some .int)) (k4 : Int32 → Int32 → Mem → Option (Int32 × Mem)) (hk4 : ∀ (x1 : Int32) (x2 : Int32) (M : Mem), BL p l e (rmL 1) s m args below meth c LX D cy ad 3 (QI LX D cy ad) 4 [(0, .ref (ad 10)), (1, .int x1), (2, .int x2)] [] M (k4 x1 x2 M)) (x1 : Int32) (x2 : Int32) (M : Mem) : BL p l e (rmL 1) s m args below meth c LX D cy ad 3 (QI LX D cy ad) 4 [(0, .ref (ad 10)), (1, .int x1), (2, .int x2)] [] M (bX6_countEmpty_4 n0 k4 x1 x2 M) := by
  unfold bX6_countEmpty_4
  refine b_iload_n hO dX6_countEmpty_4 2 rfl rfl ?_
  refine b_aload_n hO dX6_countEmpty_5 0 rfl rfl ?_
  refine b_getR hO flX6_34 kLX_10 (id := 1280) rfl rfl (rk := 9) rfl (by decide) dX6_countEmpty_6 (fun hg1 => ?_)
  refine b_get hO flX6_38 hg1 (v := .int (gI _ (128 * (gR M 1280) + 5))) rfl dX6_countEmpty_9 ?_
  refine b_icmp_ge hO dX6_countEmpty_12 (tgt := 34) (by decide) ?_ ?_
  · refine b_iload_n hO dX6_countEmpty_34 1 rfl rfl ?_
    exact b_iret hO dX6_countEmpty_35
  · refine b_aload_n hO dX6_countEmpty_15 0 rfl rfl ?_
    refine b_get hO flX6_15 kLX_10 (v := .ref (ad 11)) rfl dX6_countEmpty_16 ?_
    refine b_iload_n hO dX6_countEmpty_19 2 rfl rfl ?_
    refine b_iald hO kLX_11 (n := 5) rfl dX6_countEmpty_20 ?_
    refine b_iconst hO dX6_countEmpty_21 ic_i_m1 ?_
    refine b_icmp_ne hO dX6_countEmpty_22 (tgt := 28) (by decide) ?_ ?_
    · exact tfX6_countEmpty_28 n0 hO k4 hk4 _ _ _
    · refine b_iinc hO dX6_countEmpty_25 1 rfl ic_i_1 (by decide) (lv' := [(1, .int _), (0, .ref _), (2, .int _)]) rfl ?_
      refine b_sub [1, 0, 2] rfl ?_
      exact tfX6_countEmpty_28 n0 hO k4 hk4 _ _ _
theorem lX6_countEmpty_4 (n0 : Nat) (hO : OKc p (rmL 1) s m args meth c LX D cy ad cX6_countEmpty RX6 3 1 (some .int)) : ∀ (w : Nat) (x1 : Int32) (x2 : Int32) (M : Mem), BL p l e (rmL 1) s m args below meth c LX D cy ad 3 (QI LX D cy ad) 4 [(0, .ref (ad 10)), (1, .int x1), (2, .int x2)] [] M (loopN (bX6_countEmpty_4 n0) (fun _ _ _ => none) w x1 x2 M) := by
  intro w
  induction w with
  | zero =>
    intros
    exact b_none
  | succ w ih =>
    intro x1 x2 M
    exact tbX6_countEmpty_4 n0 hO _ ih x1 x2 M
theorem tfX6_countEmpty_4 (n0 : Nat) (hO : OKc p (rmL 1) s m args meth c LX D cy ad cX6_countEmpty RX6 3 1 (some .int)) (x1 : Int32) (x2 : Int32) (M : Mem) : BL p l e (rmL 1) s m args below meth c LX D cy ad 3 (QI LX D cy ad) 4 [(0, .ref (ad 10)), (1, .int x1), (2, .int x2)] [] M (fX6_countEmpty_4 n0 x1 x2 M) := lX6_countEmpty_4 n0 hO n0 x1 x2 M
theorem tfX6_countEmpty (n0 : Nat) (hO : OKc p (rmL 1) s m args meth c LX D cy ad cX6_countEmpty RX6 3 1 (some .int)) (M : Mem) : BL p l e (rmL 1) s m args below meth c LX D cy ad 3 (QI LX D cy ad) 0 [(0, .ref (ad 10))] [] M (fX6_countEmpty n0 M) := by
  unfold fX6_countEmpty
  refine b_iconst hO dX6_countEmpty_0 ic_i_0 ?_
  refine b_istore_n hO dX6_countEmpty_1 rfl (by decide) (lv' := [(1, .int _), (0, .ref _)]) rfl ?_
  refine b_iconst hO dX6_countEmpty_2 ic_i_0 ?_
  refine b_istore_n hO dX6_countEmpty_3 rfl (by decide) (lv' := [(2, .int _), (1, .int _), (0, .ref _)]) rfl ?_
  refine b_sub [2, 1, 0] rfl ?_
  exact tfX6_countEmpty_4 n0 hO _ _ _
theorem ctX6_countEmpty (n0 : Nat) (hI : Inj LX ad) (M : Mem) : CT l LX D cy ad yX6_countEmpty cX6_countEmpty 3 (some .int) 1 (QI LX D cy ad) [.ref (ad 10)] M (fX6_countEmpty n0 M) :=
  CT.mk LXok hI (by decide) (Nat.le_of_ble_eq_true rfl) (fun hO => tfX6_countEmpty n0 hO M)
/-! X6_goOn -/
def bX6_goOn_2 (n0 : Nat) (k2 : Int32 → Mem → Option (Mem)) (x2 : Int32) (M : Mem) : Option (Mem) :=
  if (gI M (128 * (gR M 1280) + 5)) ≤ x2 then
    some (sI M 1281 (imin (9999 : Int32) ((gI M 1281) + (1 : Int32))))
  else
    if oob x2 5 then none else
    if oob x2 5 then none else
    (fX1_hold n0 x2 (gA M 11 (Int32.toNatClampNeg x2)) (gA M 12 (Int32.toNatClampNeg x2)) (gI M 1281) M).bind fun z31 =>
    (fX1_goOn n0 z31).bind fun z35 =>
    if oob x2 5 then none else
    bnd (sA z35 11 (Int32.toNatClampNeg x2) (gI z35 898)) fun M47 =>
    if oob x2 5 then none else
    bnd (sA M47 12 (Int32.toNatClampNeg x2) (gI M47 899)) fun M57 =>
    k2 (x2 + (1 : Int32)) M57
def fX6_goOn_2 (n0 : Nat) : Int32 → Mem → Option (Mem) := loopN (bX6_goOn_2 n0) (fun _ _ => none) n0
def fX6_goOn (n0 : Nat) (M : Mem) : Option (Mem) :=
  fX6_goOn_2 n0 (0 : Int32) M
theorem tbX6_goOn_2 (n0 : Nat) (hO : OKc p (rmL 5) s m args meth c LX D cy ad cX6_goOn RX6 3 5 none) (k2 : Int32 → Mem → Option (Mem)) (hk2 : ∀ (x2 : Int32) (M : Mem), BL p l e (rmL 5) s m args below meth c LX D cy ad 3 (QV LX D cy ad) 2 [(0, .ref (ad 10)), (1, .ref (ad 7)), (2, .int x2)] [] M (k2 x2 M)) (x2 : Int32) (M : Mem) : BL p l e (rmL 5) s m args below meth c LX D cy ad 3 (QV LX D cy ad) 2 [(0, .ref (ad 10)), (1, .ref (ad 7)), (2, .int x2)] [] M (bX6_goOn_2 n0 k2 x2 M) := by
  unfold bX6_goOn_2
  refine b_iload_n hO dX6_goOn_2 2 rfl rfl ?_
  refine b_aload_n hO dX6_goOn_3 0 rfl rfl ?_
  refine b_getR hO flX6_34 kLX_10 (id := 1280) rfl rfl (rk := 9) rfl (by decide) dX6_goOn_4 (fun hg1 => ?_)
  refine b_get hO flX6_38 hg1 (v := .int (gI _ (128 * (gR M 1280) + 5))) rfl dX6_goOn_7 ?_
  refine b_icmp_ge hO dX6_goOn_10 (tgt := 64) (by decide) ?_ ?_
  · refine b_aload_n hO dX6_goOn_64 0 rfl rfl ?_
    refine b_sipush hO dX6_goOn_65 ic_s_9999 ?_
    refine b_aload_n hO dX6_goOn_68 0 rfl rfl ?_
    refine b_get hO flX6_9 kLX_10 (v := .int (gI _ 1281)) rfl dX6_goOn_69 ?_
    refine b_iconst hO dX6_goOn_72 ic_i_1 ?_
    refine b_iadd hO dX6_goOn_73 ?_
    refine b_mmin hO w1145 w591 w136 wm592 (by first | decide | omega) (Nat.le_of_ble_eq_true rfl) dX6_goOn_74 ?_
    refine b_putI hO flX6_9 kLX_10 rfl rfl rfl (id := 1281) rfl dX6_goOn_77 ?_
    exact b_vret hO dX6_goOn_80
  · refine b_aload_n hO dX6_goOn_13 1 rfl rfl ?_
    refine b_iload_n hO dX6_goOn_14 2 rfl rfl ?_
    refine b_aload_n hO dX6_goOn_15 0 rfl rfl ?_
    refine b_get hO flX6_15 kLX_10 (v := .ref (ad 11)) rfl dX6_goOn_16 ?_
    refine b_iload_n hO dX6_goOn_19 2 rfl rfl ?_
    refine b_iald hO kLX_11 (n := 5) rfl dX6_goOn_20 ?_
    refine b_aload_n hO dX6_goOn_21 0 rfl rfl ?_
    refine b_get hO flX6_19 kLX_10 (v := .ref (ad 12)) rfl dX6_goOn_22 ?_
    refine b_iload_n hO dX6_goOn_25 2 rfl rfl ?_
    refine b_iald hO kLX_12 (n := 5) rfl dX6_goOn_26 ?_
    refine b_aload_n hO dX6_goOn_27 0 rfl rfl ?_
    refine b_get hO flX6_9 kLX_10 (v := .int (gI _ 1281)) rfl dX6_goOn_28 ?_
    refine b_callVV hO mdX1_hold mvX1_hold w560 (ci := 1) rfl rfl (by decide) kLX_7 (As := [.int _, .int _, .int _, .int _]) (st := []) (ctX1_hold n0 hO.2.2.2.2.2.2.1 _ _ _ _ _) (Nat.le_of_ble_eq_true rfl) rfl rfl (Nat.le_of_ble_eq_true rfl) dX6_goOn_31 (fun z31 => ?_)
    refine b_aload_n hO dX6_goOn_34 1 rfl rfl ?_
    refine b_callVV hO mdX1_goOn mvX1_goOn w1144 (ci := 1) rfl rfl (by decide) kLX_7 (As := []) (st := []) (ctX1_goOn n0 hO.2.2.2.2.2.2.1 _) (Nat.le_of_ble_eq_true rfl) rfl rfl (Nat.le_of_ble_eq_true rfl) dX6_goOn_35 (fun z35 => ?_)
    refine b_aload_n hO dX6_goOn_38 0 rfl rfl ?_
    refine b_get hO flX6_15 kLX_10 (v := .ref (ad 11)) rfl dX6_goOn_39 ?_
    refine b_iload_n hO dX6_goOn_42 2 rfl rfl ?_
    refine b_aload_n hO dX6_goOn_43 1 rfl rfl ?_
    refine b_get hO flX6_62 kLX_7 (v := .int (gI _ 898)) rfl dX6_goOn_44 ?_
    refine b_iast hO kLX_11 (n := 5) rfl dX6_goOn_47 ?_
    refine b_bnd (fun M47 => ?_)
    refine b_aload_n hO dX6_goOn_48 0 rfl rfl ?_
    refine b_get hO flX6_19 kLX_10 (v := .ref (ad 12)) rfl dX6_goOn_49 ?_
    refine b_iload_n hO dX6_goOn_52 2 rfl rfl ?_
    refine b_aload_n hO dX6_goOn_53 1 rfl rfl ?_
    refine b_get hO flX6_65 kLX_7 (v := .int (gI _ 899)) rfl dX6_goOn_54 ?_
    refine b_iast hO kLX_12 (n := 5) rfl dX6_goOn_57 ?_
    refine b_bnd (fun M57 => ?_)
    refine b_iinc hO dX6_goOn_58 2 rfl ic_i_1 (by decide) (lv' := [(2, .int _), (0, .ref _), (1, .ref _)]) rfl ?_
    refine b_goto hO dX6_goOn_61 (tgt := 2) (by decide) ?_
    refine b_sub [1, 2, 0] rfl ?_
    exact hk2 _ _
theorem lX6_goOn_2 (n0 : Nat) (hO : OKc p (rmL 5) s m args meth c LX D cy ad cX6_goOn RX6 3 5 none) : ∀ (w : Nat) (x2 : Int32) (M : Mem), BL p l e (rmL 5) s m args below meth c LX D cy ad 3 (QV LX D cy ad) 2 [(0, .ref (ad 10)), (1, .ref (ad 7)), (2, .int x2)] [] M (loopN (bX6_goOn_2 n0) (fun _ _ => none) w x2 M) := by
  intro w
  induction w with
  | zero =>
    intros
    exact b_none
  | succ w ih =>
    intro x2 M
    exact tbX6_goOn_2 n0 hO _ ih x2 M
theorem tfX6_goOn_2 (n0 : Nat) (hO : OKc p (rmL 5) s m args meth c LX D cy ad cX6_goOn RX6 3 5 none) (x2 : Int32) (M : Mem) : BL p l e (rmL 5) s m args below meth c LX D cy ad 3 (QV LX D cy ad) 2 [(0, .ref (ad 10)), (1, .ref (ad 7)), (2, .int x2)] [] M (fX6_goOn_2 n0 x2 M) := lX6_goOn_2 n0 hO n0 x2 M
theorem tfX6_goOn (n0 : Nat) (hO : OKc p (rmL 5) s m args meth c LX D cy ad cX6_goOn RX6 3 5 none) (M : Mem) : BL p l e (rmL 5) s m args below meth c LX D cy ad 3 (QV LX D cy ad) 0 [(0, .ref (ad 10)), (1, .ref (ad 7))] [] M (fX6_goOn n0 M) := by
  unfold fX6_goOn
  refine b_iconst hO dX6_goOn_0 ic_i_0 ?_
  refine b_istore_n hO dX6_goOn_1 rfl (by decide) (lv' := [(2, .int _), (0, .ref _), (1, .ref _)]) rfl ?_
  refine b_sub [1, 2, 0] rfl ?_
  exact tfX6_goOn_2 n0 hO _ _
theorem ctX6_goOn (n0 : Nat) (hI : Inj LX ad) (M : Mem) : CT l LX D cy ad yX6_goOn cX6_goOn 3 none 5 (QV LX D cy ad) [.ref (ad 10), .ref (ad 7)] M (fX6_goOn n0 M) :=
  CT.mk LXok hI (by decide) (Nat.le_of_ble_eq_true rfl) (fun hO => tfX6_goOn n0 hO M)
/-! X6_isDue -/
def fX6_isDue (n0 : Nat) (x1 : Int32) (M : Mem) : Option (Int32 × Mem) :=
  if oob x1 6 then none else
  bnd (gA M ((gR M 1280) + 10) (Int32.toNatClampNeg x1)) fun x3_9 =>
  if oob x3_9 5 then none else
  if oob x3_9 5 then none else
  (fX1_hold n0 x3_9 (gA M 11 (Int32.toNatClampNeg x3_9)) (gA M 12 (Int32.toNatClampNeg x3_9)) (gI M 1281) M).bind fun z28 =>
  (fX1_hourNow n0 z28).bind fun z32 =>
  if oob x1 6 then none else
  if z32.1 = (gA z32.2 ((gR z32.2 1280) + 11) (Int32.toNatClampNeg x1)) then
    some ((1 : Int32), z32.2)
  else
    some ((0 : Int32), z32.2)
theorem tfX6_isDue (n0 : Nat) (hO : OKc p (rmL 5) s m args meth c LX D cy ad cX6_isDue RX6 4 5 (some .boolean)) (x1 : Int32) (M : Mem) : BL p l e (rmL 5) s m args below meth c LX D cy ad 4 (QI LX D cy ad) 0 [(0, .ref (ad 10)), (1, .int x1), (2, .ref (ad 7))] [] M (fX6_isDue n0 x1 M) := by
  unfold fX6_isDue
  refine b_aload_n hO dX6_isDue_0 0 rfl rfl ?_
  refine b_getR hO flX6_34 kLX_10 (id := 1280) rfl rfl (rk := 9) rfl (by decide) dX6_isDue_1 (fun hg1 => ?_)
  refine b_get hO flX6_81 hg1 (v := .ref (ad ((gR M 1280) + 10))) rfl dX6_isDue_4 ?_
  refine b_iload_n hO dX6_isDue_7 1 rfl rfl ?_
  refine b_iald hO (kt_9_10 hg1) (n := 6) (lt_9_10 hg1) dX6_isDue_8 ?_
  refine b_topI (fun x3_9 => ?_)
  refine b_istore_n hO dX6_isDue_9 rfl (by decide) (lv' := [(3, .int _), (0, .ref _), (1, .int _), (2, .ref _)]) rfl ?_
  refine b_aload_n hO dX6_isDue_10 3 rfl rfl ?_
  refine b_iload_n hO dX6_isDue_11 0 rfl rfl ?_
  refine b_aload_n hO dX6_isDue_12 1 rfl rfl ?_
  refine b_get hO flX6_15 kLX_10 (v := .ref (ad 11)) rfl dX6_isDue_13 ?_
  refine b_iload_n hO dX6_isDue_16 0 rfl rfl ?_
  refine b_iald hO kLX_11 (n := 5) rfl dX6_isDue_17 ?_
  refine b_aload_n hO dX6_isDue_18 1 rfl rfl ?_
  refine b_get hO flX6_19 kLX_10 (v := .ref (ad 12)) rfl dX6_isDue_19 ?_
  refine b_iload_n hO dX6_isDue_22 0 rfl rfl ?_
  refine b_iald hO kLX_12 (n := 5) rfl dX6_isDue_23 ?_
  refine b_aload_n hO dX6_isDue_24 1 rfl rfl ?_
  refine b_get hO flX6_9 kLX_10 (v := .int (gI _ 1281)) rfl dX6_isDue_25 ?_
  refine b_callVV hO mdX1_hold mvX1_hold w560 (ci := 1) rfl rfl (by decide) kLX_7 (As := [.int _, .int _, .int _, .int _]) (st := []) (ctX1_hold n0 hO.2.2.2.2.2.2.1 _ _ _ _ _) (Nat.le_of_ble_eq_true rfl) rfl rfl (Nat.le_of_ble_eq_true rfl) dX6_isDue_28 (fun z28 => ?_)
  refine b_aload_n hO dX6_isDue_31 3 rfl rfl ?_
  refine b_callVI hO mdX1_hourNow mvX1_hourNow w564 (ci := 1) rfl rfl (by decide) kLX_7 (As := []) (st := []) (ctX1_hourNow n0 hO.2.2.2.2.2.2.1 _) (Nat.le_of_ble_eq_true rfl) rfl rfl (Nat.le_of_ble_eq_true rfl) dX6_isDue_32 (fun z32 => ?_)
  refine b_aload_n hO dX6_isDue_35 1 rfl rfl ?_
  refine b_getR hO flX6_34 kLX_10 (id := 1280) rfl rfl (rk := 9) rfl (by decide) dX6_isDue_36 (fun hg2 => ?_)
  refine b_get hO flX6_88 hg2 (v := .ref (ad ((gR z32.2 1280) + 11))) rfl dX6_isDue_39 ?_
  refine b_iload_n hO dX6_isDue_42 2 rfl rfl ?_
  refine b_iald hO (kt_9_11 hg2) (n := 6) (lt_9_11 hg2) dX6_isDue_43 ?_
  refine b_icmp_ne hO dX6_isDue_44 (tgt := 51) (by decide) ?_ ?_
  · refine b_iconst hO dX6_isDue_51 ic_i_0 ?_
    exact b_zretc hO (Or.inl rfl) dX6_isDue_52
  · refine b_iconst hO dX6_isDue_47 ic_i_1 ?_
    refine b_goto hO dX6_isDue_48 (tgt := 52) (by decide) ?_
    exact b_zretc hO (Or.inr rfl) dX6_isDue_52
theorem ctX6_isDue (n0 : Nat) (hI : Inj LX ad) (x1 : Int32) (M : Mem) : CT l LX D cy ad yX6_isDue cX6_isDue 4 (some .boolean) 5 (QI LX D cy ad) [.ref (ad 10), .int x1, .ref (ad 7)] M (fX6_isDue n0 x1 M) :=
  CT.mk LXok hI (by decide) (Nat.le_of_ble_eq_true rfl) (fun hO => tfX6_isDue n0 hO x1 M)
/-! X6_keep -/
def fX6_keep (n0 : Nat) (x1 : Int32) (M : Mem) : Option (Mem) :=
  if (6 : Int32) ≤ (gI M 1285) then
    some M
  else
    if oob (gI M 1285) 6 then none else
    bnd (sA M 14 (Int32.toNatClampNeg (gI M 1285)) (gI M 1281)) fun M21 =>
    if oob (gI M21 1285) 6 then none else
    bnd (sA M21 15 (Int32.toNatClampNeg (gI M21 1285)) x1) fun M31 =>
    some (sI M31 1285 ((gI M31 1285) + (1 : Int32)))
theorem tfX6_keep (n0 : Nat) (hO : OKc p (rmL 1) s m args meth c LX D cy ad cX6_keep RX6 2 1 none) (x1 : Int32) (M : Mem) : BL p l e (rmL 1) s m args below meth c LX D cy ad 2 (QV LX D cy ad) 0 [(0, .ref (ad 10)), (1, .int x1)] [] M (fX6_keep n0 x1 M) := by
  unfold fX6_keep
  refine b_aload_n hO dX6_keep_0 0 rfl rfl ?_
  refine b_get hO flX6_25 kLX_10 (v := .int (gI _ 1285)) rfl dX6_keep_1 ?_
  refine b_bipush hO dX6_keep_4 ic_b_6 ?_
  refine b_icmp_ge hO dX6_keep_6 (tgt := 42) (by decide) ?_ ?_
  · exact b_vret hO dX6_keep_42
  · refine b_aload_n hO dX6_keep_9 0 rfl rfl ?_
    refine b_get hO flX6_28 kLX_10 (v := .ref (ad 14)) rfl dX6_keep_10 ?_
    refine b_aload_n hO dX6_keep_13 0 rfl rfl ?_
    refine b_get hO flX6_25 kLX_10 (v := .int (gI _ 1285)) rfl dX6_keep_14 ?_
    refine b_aload_n hO dX6_keep_17 0 rfl rfl ?_
    refine b_get hO flX6_9 kLX_10 (v := .int (gI _ 1281)) rfl dX6_keep_18 ?_
    refine b_iast hO kLX_14 (n := 6) rfl dX6_keep_21 ?_
    refine b_bnd (fun M21 => ?_)
    refine b_aload_n hO dX6_keep_22 0 rfl rfl ?_
    refine b_get hO flX6_31 kLX_10 (v := .ref (ad 15)) rfl dX6_keep_23 ?_
    refine b_aload_n hO dX6_keep_26 0 rfl rfl ?_
    refine b_get hO flX6_25 kLX_10 (v := .int (gI _ 1285)) rfl dX6_keep_27 ?_
    refine b_iload_n hO dX6_keep_30 1 rfl rfl ?_
    refine b_iast hO kLX_15 (n := 6) rfl dX6_keep_31 ?_
    refine b_bnd (fun M31 => ?_)
    refine b_aload_n hO dX6_keep_32 0 rfl rfl ?_
    refine b_dup hO dX6_keep_33 rfl ?_
    refine b_get hO flX6_25 kLX_10 (v := .int (gI _ 1285)) rfl dX6_keep_34 ?_
    refine b_iconst hO dX6_keep_37 ic_i_1 ?_
    refine b_iadd hO dX6_keep_38 ?_
    refine b_putI hO flX6_25 kLX_10 rfl rfl rfl (id := 1285) rfl dX6_keep_39 ?_
    exact b_vret hO dX6_keep_42
theorem ctX6_keep (n0 : Nat) (hI : Inj LX ad) (x1 : Int32) (M : Mem) : CT l LX D cy ad yX6_keep cX6_keep 2 none 1 (QV LX D cy ad) [.ref (ad 10), .int x1] M (fX6_keep n0 x1 M) :=
  CT.mk LXok hI (by decide) (Nat.le_of_ble_eq_true rfl) (fun hO => tfX6_keep n0 hO x1 M)
/-! X6_doWhatIsDue -/
def fX6_doWhatIsDue_48 (n0 : Nat) (k4 : Int32 → Int32 → Mem → Option (Int32 × Mem)) (x2 : Int32) (x3 : Int32) (M : Mem) : Option (Int32 × Mem) :=
  k4 x2 (x3 + (1 : Int32)) M
def bX6_doWhatIsDue_4 (n0 : Nat) (k4 : Int32 → Int32 → Mem → Option (Int32 × Mem)) (x2 : Int32) (x3 : Int32) (M : Mem) : Option (Int32 × Mem) :=
  if (gI M (128 * (gR M 1280) + 12)) ≤ x3 then
    some (x2, M)
  else
    if oob x3 6 then none else
    if (gA M 13 (Int32.toNatClampNeg x3)) = 0 then
      (fX6_isDue n0 x3 M).bind fun z27 =>
      if z27.1 = 0 then
        fX6_doWhatIsDue_48 n0 k4 x2 x3 z27.2
      else
        if oob x3 6 then none else
        bnd (sA z27.2 13 (Int32.toNatClampNeg x3) (1 : Int32)) fun M39 =>
        (fX6_keep n0 x3 M39).bind fun z42 =>
        fX6_doWhatIsDue_48 n0 k4 (x2 + (1 : Int32)) x3 z42
    else
      fX6_doWhatIsDue_48 n0 k4 x2 x3 M
def fX6_doWhatIsDue_4 (n0 : Nat) : Int32 → Int32 → Mem → Option (Int32 × Mem) := loopN (bX6_doWhatIsDue_4 n0) (fun _ _ _ => none) n0
def fX6_doWhatIsDue (n0 : Nat) (M : Mem) : Option (Int32 × Mem) :=
  fX6_doWhatIsDue_4 n0 (0 : Int32) (0 : Int32) M
theorem tfX6_doWhatIsDue_48 (n0 : Nat) (hO : OKc p (rmL 6) s m args meth c LX D cy ad cX6_doWhatIsDue RX6 4 6 (some .int)) (k4 : Int32 → Int32 → Mem → Option (Int32 × Mem)) (hk4 : ∀ (x2 : Int32) (x3 : Int32) (M : Mem), BL p l e (rmL 6) s m args below meth c LX D cy ad 4 (QI LX D cy ad) 4 [(0, .ref (ad 10)), (1, .ref (ad 7)), (2, .int x2), (3, .int x3)] [] M (k4 x2 x3 M)) (x2 : Int32) (x3 : Int32) (M : Mem) : BL p l e (rmL 6) s m args below meth c LX D cy ad 4 (QI LX D cy ad) 48 [(0, .ref (ad 10)), (1, .ref (ad 7)), (2, .int x2), (3, .int x3)] [] M (fX6_doWhatIsDue_48 n0 k4 x2 x3 M) := by
  unfold fX6_doWhatIsDue_48
  refine b_iinc hO dX6_doWhatIsDue_48 3 rfl ic_i_1 (by decide) (lv' := [(3, .int _), (0, .ref _), (1, .ref _), (2, .int _)]) rfl ?_
  refine b_goto hO dX6_doWhatIsDue_51 (tgt := 4) (by decide) ?_
  refine b_sub [1, 2, 3, 0] rfl ?_
  exact hk4 _ _ _
theorem tbX6_doWhatIsDue_4 (n0 : Nat) (hO : OKc p (rmL 6) s m args meth c LX D cy ad cX6_doWhatIsDue RX6 4 6 (some .int)) (k4 : Int32 → Int32 → Mem → Option (Int32 × Mem)) (hk4 : ∀ (x2 : Int32) (x3 : Int32) (M : Mem), BL p l e (rmL 6) s m args below meth c LX D cy ad 4 (QI LX D cy ad) 4 [(0, .ref (ad 10)), (1, .ref (ad 7)), (2, .int x2), (3, .int x3)] [] M (k4 x2 x3 M)) (x2 : Int32) (x3 : Int32) (M : Mem) : BL p l e (rmL 6) s m args below meth c LX D cy ad 4 (QI LX D cy ad) 4 [(0, .ref (ad 10)), (1, .ref (ad 7)), (2, .int x2), (3, .int x3)] [] M (bX6_doWhatIsDue_4 n0 k4 x2 x3 M) := by
  unfold bX6_doWhatIsDue_4
  refine b_iload_n hO dX6_doWhatIsDue_4 3 rfl rfl ?_
  refine b_aload_n hO dX6_doWhatIsDue_5 0 rfl rfl ?_
  refine b_getR hO flX6_34 kLX_10 (id := 1280) rfl rfl (rk := 9) rfl (by decide) dX6_doWhatIsDue_6 (fun hg1 => ?_)
  refine b_get hO flX6_50 hg1 (v := .int (gI _ (128 * (gR M 1280) + 12))) rfl dX6_doWhatIsDue_9 ?_
  refine b_icmp_ge hO dX6_doWhatIsDue_12 (tgt := 54) (by decide) ?_ ?_
  · refine b_iload_n hO dX6_doWhatIsDue_54 2 rfl rfl ?_
    exact b_iret hO dX6_doWhatIsDue_55
  · refine b_aload_n hO dX6_doWhatIsDue_15 0 rfl rfl ?_
    refine b_get hO flX6_22 kLX_10 (v := .ref (ad 13)) rfl dX6_doWhatIsDue_16 ?_
    refine b_iload_n hO dX6_doWhatIsDue_19 3 rfl rfl ?_
    refine b_iald hO kLX_13 (n := 6) rfl dX6_doWhatIsDue_20 ?_
    refine b_if_ne hO dX6_doWhatIsDue_21 (tgt := 48) (by decide) ?_ ?_
    · exact tfX6_doWhatIsDue_48 n0 hO k4 hk4 _ _ _
    · refine b_aload_n hO dX6_doWhatIsDue_24 0 rfl rfl ?_
      refine b_iload_n hO dX6_doWhatIsDue_25 3 rfl rfl ?_
      refine b_aload_n hO dX6_doWhatIsDue_26 1 rfl rfl ?_
      refine b_callVI hO mdX6_isDue mvX6_isDue w556 (ci := 6) rfl rfl (by decide) kLX_10 (As := [.int _, .ref _]) (st := []) (ctX6_isDue n0 hO.2.2.2.2.2.2.1 _ _) (Nat.le_of_ble_eq_true rfl) rfl rfl (Nat.le_of_ble_eq_true rfl) dX6_doWhatIsDue_27 (fun z27 => ?_)
      refine b_if_eq hO dX6_doWhatIsDue_30 (tgt := 48) (by decide) ?_ ?_
      · exact tfX6_doWhatIsDue_48 n0 hO k4 hk4 _ _ _
      · refine b_aload_n hO dX6_doWhatIsDue_33 0 rfl rfl ?_
        refine b_get hO flX6_22 kLX_10 (v := .ref (ad 13)) rfl dX6_doWhatIsDue_34 ?_
        refine b_iload_n hO dX6_doWhatIsDue_37 3 rfl rfl ?_
        refine b_iconst hO dX6_doWhatIsDue_38 ic_i_1 ?_
        refine b_iast hO kLX_13 (n := 6) rfl dX6_doWhatIsDue_39 ?_
        refine b_bnd (fun M39 => ?_)
        refine b_aload_n hO dX6_doWhatIsDue_40 0 rfl rfl ?_
        refine b_iload_n hO dX6_doWhatIsDue_41 3 rfl rfl ?_
        refine b_callVV hO mdX6_keep mvX6_keep w604 (ci := 6) rfl rfl (by decide) kLX_10 (As := [.int _]) (st := []) (ctX6_keep n0 hO.2.2.2.2.2.2.1 _ _) (Nat.le_of_ble_eq_true rfl) rfl rfl (Nat.le_of_ble_eq_true rfl) dX6_doWhatIsDue_42 (fun z42 => ?_)
        refine b_iinc hO dX6_doWhatIsDue_45 2 rfl ic_i_1 (by decide) (lv' := [(2, .int _), (0, .ref _), (1, .ref _), (3, .int _)]) rfl ?_
        refine b_sub [1, 2, 0, 3] rfl ?_
        exact tfX6_doWhatIsDue_48 n0 hO k4 hk4 _ _ _
theorem lX6_doWhatIsDue_4 (n0 : Nat) (hO : OKc p (rmL 6) s m args meth c LX D cy ad cX6_doWhatIsDue RX6 4 6 (some .int)) : ∀ (w : Nat) (x2 : Int32) (x3 : Int32) (M : Mem), BL p l e (rmL 6) s m args below meth c LX D cy ad 4 (QI LX D cy ad) 4 [(0, .ref (ad 10)), (1, .ref (ad 7)), (2, .int x2), (3, .int x3)] [] M (loopN (bX6_doWhatIsDue_4 n0) (fun _ _ _ => none) w x2 x3 M) := by
  intro w
  induction w with
  | zero =>
    intros
    exact b_none
  | succ w ih =>
    intro x2 x3 M
    exact tbX6_doWhatIsDue_4 n0 hO _ ih x2 x3 M
theorem tfX6_doWhatIsDue_4 (n0 : Nat) (hO : OKc p (rmL 6) s m args meth c LX D cy ad cX6_doWhatIsDue RX6 4 6 (some .int)) (x2 : Int32) (x3 : Int32) (M : Mem) : BL p l e (rmL 6) s m args below meth c LX D cy ad 4 (QI LX D cy ad) 4 [(0, .ref (ad 10)), (1, .ref (ad 7)), (2, .int x2), (3, .int x3)] [] M (fX6_doWhatIsDue_4 n0 x2 x3 M) := lX6_doWhatIsDue_4 n0 hO n0 x2 x3 M
theorem tfX6_doWhatIsDue (n0 : Nat) (hO : OKc p (rmL 6) s m args meth c LX D cy ad cX6_doWhatIsDue RX6 4 6 (some .int)) (M : Mem) : BL p l e (rmL 6) s m args below meth c LX D cy ad 4 (QI LX D cy ad) 0 [(0, .ref (ad 10)), (1, .ref (ad 7))] [] M (fX6_doWhatIsDue n0 M) := by
  unfold fX6_doWhatIsDue
  refine b_iconst hO dX6_doWhatIsDue_0 ic_i_0 ?_
  refine b_istore_n hO dX6_doWhatIsDue_1 rfl (by decide) (lv' := [(2, .int _), (0, .ref _), (1, .ref _)]) rfl ?_
  refine b_iconst hO dX6_doWhatIsDue_2 ic_i_0 ?_
  refine b_istore_n hO dX6_doWhatIsDue_3 rfl (by decide) (lv' := [(3, .int _), (2, .int _), (0, .ref _), (1, .ref _)]) rfl ?_
  refine b_sub [2, 3, 1, 0] rfl ?_
  exact tfX6_doWhatIsDue_4 n0 hO _ _ _
theorem ctX6_doWhatIsDue (n0 : Nat) (hI : Inj LX ad) (M : Mem) : CT l LX D cy ad yX6_doWhatIsDue cX6_doWhatIsDue 4 (some .int) 6 (QI LX D cy ad) [.ref (ad 10), .ref (ad 7)] M (fX6_doWhatIsDue n0 M) :=
  CT.mk LXok hI (by decide) (Nat.le_of_ble_eq_true rfl) (fun hO => tfX6_doWhatIsDue n0 hO M)
/-! X6_save -/
def fX6_save (n0 : Nat) (q1 : Nat) (M : Mem) : Option (Mem) :=
  if (18 : Int32) ≤ (Int32.ofNat (LX.ln q1)) then
    if oob (0 : Int32) (LX.ln q1) then none else
    bnd (sA M q1 (Int32.toNatClampNeg (0 : Int32)) (gI M 1281)) fun M14 =>
    if oob (1 : Int32) (LX.ln q1) then none else
    bnd (sA M14 q1 (Int32.toNatClampNeg (1 : Int32)) (gI M14 1285)) fun M21 =>
    if (0 : Int32) < 0 ∨ (2 : Int32) < 0 ∨ (5 : Int32) < 0 ∨ 5 < Int32.toNatClampNeg (0 : Int32) + Int32.toNatClampNeg (5 : Int32) ∨ (LX.ln q1) < Int32.toNatClampNeg (2 : Int32) + Int32.toNatClampNeg (5 : Int32) then none else
    bnd (sF M21 q1 (va_cpy (gA M21 11) (gA M21 q1) (Int32.toNatClampNeg (0 : Int32)) (Int32.toNatClampNeg (2 : Int32)) (Int32.toNatClampNeg (5 : Int32)))) fun M30 =>
    if (0 : Int32) < 0 ∨ (7 : Int32) < 0 ∨ (5 : Int32) < 0 ∨ 5 < Int32.toNatClampNeg (0 : Int32) + Int32.toNatClampNeg (5 : Int32) ∨ (LX.ln q1) < Int32.toNatClampNeg (7 : Int32) + Int32.toNatClampNeg (5 : Int32) then none else
    bnd (sF M30 q1 (va_cpy (gA M30 12) (gA M30 q1) (Int32.toNatClampNeg (0 : Int32)) (Int32.toNatClampNeg (7 : Int32)) (Int32.toNatClampNeg (5 : Int32)))) fun M42 =>
    if (0 : Int32) < 0 ∨ (12 : Int32) < 0 ∨ (6 : Int32) < 0 ∨ 6 < Int32.toNatClampNeg (0 : Int32) + Int32.toNatClampNeg (6 : Int32) ∨ (LX.ln q1) < Int32.toNatClampNeg (12 : Int32) + Int32.toNatClampNeg (6 : Int32) then none else
    some (sF M42 q1 (va_cpy (gA M42 13) (gA M42 q1) (Int32.toNatClampNeg (0 : Int32)) (Int32.toNatClampNeg (12 : Int32)) (Int32.toNatClampNeg (6 : Int32))))
  else
    some M
theorem tfX6_save (n0 : Nat) (q1 : Nat) (hq1 : isK LX q1 13) (hO : OKc p (rmL 1) s m args meth c LX D cy ad cX6_save RX6 2 1 none) (M : Mem) : BL p l e (rmL 1) s m args below meth c LX D cy ad 2 (QV LX D cy ad) 0 [(0, .ref (ad 10)), (1, .ref (ad q1))] [] M (fX6_save n0 q1 M) := by
  unfold fX6_save
  refine b_aload_n hO dX6_save_0 1 rfl rfl ?_
  refine b_alen hO hq1 rfl dX6_save_1 ?_
  refine b_bipush hO dX6_save_2 ic_b_18 ?_
  refine b_icmp_ge hO dX6_save_4 (tgt := 8) (by decide) ?_ ?_
  · refine b_aload_n hO dX6_save_8 1 rfl rfl ?_
    refine b_iconst hO dX6_save_9 ic_i_0 ?_
    refine b_aload_n hO dX6_save_10 0 rfl rfl ?_
    refine b_get hO flX6_9 kLX_10 (v := .int (gI _ 1281)) rfl dX6_save_11 ?_
    refine b_iast hO hq1 (n := (LX.ln q1)) rfl dX6_save_14 ?_
    refine b_bnd (fun M14 => ?_)
    refine b_aload_n hO dX6_save_15 1 rfl rfl ?_
    refine b_iconst hO dX6_save_16 ic_i_1 ?_
    refine b_aload_n hO dX6_save_17 0 rfl rfl ?_
    refine b_get hO flX6_25 kLX_10 (v := .int (gI _ 1285)) rfl dX6_save_18 ?_
    refine b_iast hO hq1 (n := (LX.ln q1)) rfl dX6_save_21 ?_
    refine b_bnd (fun M21 => ?_)
    refine b_aload_n hO dX6_save_22 0 rfl rfl ?_
    refine b_get hO flX6_15 kLX_10 (v := .ref (ad 11)) rfl dX6_save_23 ?_
    refine b_iconst hO dX6_save_26 ic_i_0 ?_
    refine b_aload_n hO dX6_save_27 1 rfl rfl ?_
    refine b_iconst hO dX6_save_28 ic_i_2 ?_
    refine b_iconst hO dX6_save_29 ic_i_5 ?_
    refine b_copy hO w1136 w1138 w1137 w138 kLX_11 hq1 (n0 := 5) (n1 := (LX.ln q1)) rfl rfl (by decide) (Nat.le_of_ble_eq_true rfl) dX6_save_30 ?_
    refine b_bnd (fun M30 => ?_)
    refine b_aload_n hO dX6_save_33 0 rfl rfl ?_
    refine b_get hO flX6_19 kLX_10 (v := .ref (ad 12)) rfl dX6_save_34 ?_
    refine b_iconst hO dX6_save_37 ic_i_0 ?_
    refine b_aload_n hO dX6_save_38 1 rfl rfl ?_
    refine b_bipush hO dX6_save_39 ic_b_7 ?_
    refine b_iconst hO dX6_save_41 ic_i_5 ?_
    refine b_copy hO w1136 w1138 w1137 w138 kLX_12 hq1 (n0 := 5) (n1 := (LX.ln q1)) rfl rfl (by decide) (Nat.le_of_ble_eq_true rfl) dX6_save_42 ?_
    refine b_bnd (fun M42 => ?_)
    refine b_aload_n hO dX6_save_45 0 rfl rfl ?_
    refine b_get hO flX6_22 kLX_10 (v := .ref (ad 13)) rfl dX6_save_46 ?_
    refine b_iconst hO dX6_save_49 ic_i_0 ?_
    refine b_aload_n hO dX6_save_50 1 rfl rfl ?_
    refine b_bipush hO dX6_save_51 ic_b_12 ?_
    refine b_bipush hO dX6_save_53 ic_b_6 ?_
    refine b_copy hO w1136 w1138 w1137 w138 kLX_13 hq1 (n0 := 6) (n1 := (LX.ln q1)) rfl rfl (by decide) (Nat.le_of_ble_eq_true rfl) dX6_save_55 ?_
    exact b_vret hO dX6_save_58
  · exact b_vret hO dX6_save_7
theorem ctX6_save (n0 : Nat) (q1 : Nat) (hq1 : isK LX q1 13) (hI : Inj LX ad) (M : Mem) : CT l LX D cy ad yX6_save cX6_save 2 none 1 (QV LX D cy ad) [.ref (ad 10), .ref (ad q1)] M (fX6_save n0 q1 M) :=
  CT.mk LXok hI (by decide) (Nat.le_of_ble_eq_true rfl) (fun hO => tfX6_save n0 q1 hq1 hO M)
/-! X6_bringBack -/
def fX6_bringBack (n0 : Nat) (q1 : Nat) (M : Mem) : Option (Mem) :=
  if (18 : Int32) ≤ (Int32.ofNat (LX.ln q1)) then
    if oob (0 : Int32) (LX.ln q1) then none else
    bnd (sI M 1281 (gA M q1 (Int32.toNatClampNeg (0 : Int32)))) fun M12 =>
    if oob (1 : Int32) (LX.ln q1) then none else
    bnd (sI M12 1285 (gA M12 q1 (Int32.toNatClampNeg (1 : Int32)))) fun M19 =>
    if (2 : Int32) < 0 ∨ (0 : Int32) < 0 ∨ (5 : Int32) < 0 ∨ (LX.ln q1) < Int32.toNatClampNeg (2 : Int32) + Int32.toNatClampNeg (5 : Int32) ∨ 5 < Int32.toNatClampNeg (0 : Int32) + Int32.toNatClampNeg (5 : Int32) then none else
    bnd (sF M19 11 (va_cpy (gA M19 q1) (gA M19 11) (Int32.toNatClampNeg (2 : Int32)) (Int32.toNatClampNeg (0 : Int32)) (Int32.toNatClampNeg (5 : Int32)))) fun M30 =>
    if (7 : Int32) < 0 ∨ (0 : Int32) < 0 ∨ (5 : Int32) < 0 ∨ (LX.ln q1) < Int32.toNatClampNeg (7 : Int32) + Int32.toNatClampNeg (5 : Int32) ∨ 5 < Int32.toNatClampNeg (0 : Int32) + Int32.toNatClampNeg (5 : Int32) then none else
    bnd (sF M30 12 (va_cpy (gA M30 q1) (gA M30 12) (Int32.toNatClampNeg (7 : Int32)) (Int32.toNatClampNeg (0 : Int32)) (Int32.toNatClampNeg (5 : Int32)))) fun M42 =>
    if (12 : Int32) < 0 ∨ (0 : Int32) < 0 ∨ (6 : Int32) < 0 ∨ (LX.ln q1) < Int32.toNatClampNeg (12 : Int32) + Int32.toNatClampNeg (6 : Int32) ∨ 6 < Int32.toNatClampNeg (0 : Int32) + Int32.toNatClampNeg (6 : Int32) then none else
    some (sF M42 13 (va_cpy (gA M42 q1) (gA M42 13) (Int32.toNatClampNeg (12 : Int32)) (Int32.toNatClampNeg (0 : Int32)) (Int32.toNatClampNeg (6 : Int32))))
  else
    some M
theorem tfX6_bringBack (n0 : Nat) (q1 : Nat) (hq1 : isK LX q1 13) (hO : OKc p (rmL 1) s m args meth c LX D cy ad cX6_bringBack RX6 2 1 none) (M : Mem) : BL p l e (rmL 1) s m args below meth c LX D cy ad 2 (QV LX D cy ad) 0 [(0, .ref (ad 10)), (1, .ref (ad q1))] [] M (fX6_bringBack n0 q1 M) := by
  unfold fX6_bringBack
  refine b_aload_n hO dX6_bringBack_0 1 rfl rfl ?_
  refine b_alen hO hq1 rfl dX6_bringBack_1 ?_
  refine b_bipush hO dX6_bringBack_2 ic_b_18 ?_
  refine b_icmp_ge hO dX6_bringBack_4 (tgt := 8) (by decide) ?_ ?_
  · refine b_aload_n hO dX6_bringBack_8 0 rfl rfl ?_
    refine b_aload_n hO dX6_bringBack_9 1 rfl rfl ?_
    refine b_iconst hO dX6_bringBack_10 ic_i_0 ?_
    refine b_iald hO hq1 (n := (LX.ln q1)) rfl dX6_bringBack_11 ?_
    refine b_putI hO flX6_9 kLX_10 rfl rfl rfl (id := 1281) rfl dX6_bringBack_12 ?_
    refine b_bnd (fun M12 => ?_)
    refine b_aload_n hO dX6_bringBack_15 0 rfl rfl ?_
    refine b_aload_n hO dX6_bringBack_16 1 rfl rfl ?_
    refine b_iconst hO dX6_bringBack_17 ic_i_1 ?_
    refine b_iald hO hq1 (n := (LX.ln q1)) rfl dX6_bringBack_18 ?_
    refine b_putI hO flX6_25 kLX_10 rfl rfl rfl (id := 1285) rfl dX6_bringBack_19 ?_
    refine b_bnd (fun M19 => ?_)
    refine b_aload_n hO dX6_bringBack_22 1 rfl rfl ?_
    refine b_iconst hO dX6_bringBack_23 ic_i_2 ?_
    refine b_aload_n hO dX6_bringBack_24 0 rfl rfl ?_
    refine b_get hO flX6_15 kLX_10 (v := .ref (ad 11)) rfl dX6_bringBack_25 ?_
    refine b_iconst hO dX6_bringBack_28 ic_i_0 ?_
    refine b_iconst hO dX6_bringBack_29 ic_i_5 ?_
    refine b_copy hO w1136 w1138 w1137 w138 hq1 kLX_11 (n0 := (LX.ln q1)) (n1 := 5) rfl rfl (by decide) (Nat.le_of_ble_eq_true rfl) dX6_bringBack_30 ?_
    refine b_bnd (fun M30 => ?_)
    refine b_aload_n hO dX6_bringBack_33 1 rfl rfl ?_
    refine b_bipush hO dX6_bringBack_34 ic_b_7 ?_
    refine b_aload_n hO dX6_bringBack_36 0 rfl rfl ?_
    refine b_get hO flX6_19 kLX_10 (v := .ref (ad 12)) rfl dX6_bringBack_37 ?_
    refine b_iconst hO dX6_bringBack_40 ic_i_0 ?_
    refine b_iconst hO dX6_bringBack_41 ic_i_5 ?_
    refine b_copy hO w1136 w1138 w1137 w138 hq1 kLX_12 (n0 := (LX.ln q1)) (n1 := 5) rfl rfl (by decide) (Nat.le_of_ble_eq_true rfl) dX6_bringBack_42 ?_
    refine b_bnd (fun M42 => ?_)
    refine b_aload_n hO dX6_bringBack_45 1 rfl rfl ?_
    refine b_bipush hO dX6_bringBack_46 ic_b_12 ?_
    refine b_aload_n hO dX6_bringBack_48 0 rfl rfl ?_
    refine b_get hO flX6_22 kLX_10 (v := .ref (ad 13)) rfl dX6_bringBack_49 ?_
    refine b_iconst hO dX6_bringBack_52 ic_i_0 ?_
    refine b_bipush hO dX6_bringBack_53 ic_b_6 ?_
    refine b_copy hO w1136 w1138 w1137 w138 hq1 kLX_13 (n0 := (LX.ln q1)) (n1 := 6) rfl rfl (by decide) (Nat.le_of_ble_eq_true rfl) dX6_bringBack_55 ?_
    exact b_vret hO dX6_bringBack_58
  · exact b_vret hO dX6_bringBack_7
theorem ctX6_bringBack (n0 : Nat) (q1 : Nat) (hq1 : isK LX q1 13) (hI : Inj LX ad) (M : Mem) : CT l LX D cy ad yX6_bringBack cX6_bringBack 2 none 1 (QV LX D cy ad) [.ref (ad 10), .ref (ad q1)] M (fX6_bringBack n0 q1 M) :=
  CT.mk LXok hI (by decide) (Nat.le_of_ble_eq_true rfl) (fun hO => tfX6_bringBack n0 q1 hq1 hO M)
/-! X6_imageSize -/
def fX6_imageSize (n0 : Nat) (M : Mem) : Option (Int32 × Mem) :=
  some (((((2 : Int32) + ((3 : Int32) * (gI M (128 * (gR M 1280) + 5)))) + (gI M (128 * (gR M 1280) + 12))) + (1 : Int32)), M)
theorem tfX6_imageSize (n0 : Nat) (hO : OKc p (rmL 1) s m args meth c LX D cy ad cX6_imageSize RX6 1 1 (some .int)) (M : Mem) : BL p l e (rmL 1) s m args below meth c LX D cy ad 1 (QI LX D cy ad) 0 [(0, .ref (ad 10))] [] M (fX6_imageSize n0 M) := by
  unfold fX6_imageSize
  refine b_iconst hO dX6_imageSize_0 ic_i_2 ?_
  refine b_iconst hO dX6_imageSize_1 ic_i_3 ?_
  refine b_aload_n hO dX6_imageSize_2 0 rfl rfl ?_
  refine b_getR hO flX6_34 kLX_10 (id := 1280) rfl rfl (rk := 9) rfl (by decide) dX6_imageSize_3 (fun hg1 => ?_)
  refine b_get hO flX6_38 hg1 (v := .int (gI _ (128 * (gR M 1280) + 5))) rfl dX6_imageSize_6 ?_
  refine b_imul hO dX6_imageSize_9 ?_
  refine b_iadd hO dX6_imageSize_10 ?_
  refine b_aload_n hO dX6_imageSize_11 0 rfl rfl ?_
  refine b_getR hO flX6_34 kLX_10 (id := 1280) rfl rfl (rk := 9) rfl (by decide) dX6_imageSize_12 (fun hg2 => ?_)
  refine b_get hO flX6_50 hg2 (v := .int (gI _ (128 * (gR M 1280) + 12))) rfl dX6_imageSize_15 ?_
  refine b_iadd hO dX6_imageSize_18 ?_
  refine b_iconst hO dX6_imageSize_19 ic_i_1 ?_
  refine b_iadd hO dX6_imageSize_20 ?_
  exact b_iret hO dX6_imageSize_21
theorem ctX6_imageSize (n0 : Nat) (hI : Inj LX ad) (M : Mem) : CT l LX D cy ad yX6_imageSize cX6_imageSize 1 (some .int) 1 (QI LX D cy ad) [.ref (ad 10)] M (fX6_imageSize n0 M) :=
  CT.mk LXok hI (by decide) (Nat.le_of_ble_eq_true rfl) (fun hO => tfX6_imageSize n0 hO M)
/-! X6_checkOf -/
def bX6_checkOf_6 (n0 : Nat) (q0 : Nat) (k6 : Int32 → Int32 → Int32 → Mem → Option (Int32 × Mem)) (x1 : Int32) (x2 : Int32) (x3 : Int32) (M : Mem) : Option (Int32 × Mem) :=
  if x1 ≤ x3 then
    some (x2, M)
  else
    if (Int32.ofNat (LX.ln q0)) ≤ x3 then
      some (x2, M)
    else
      if oob x3 (LX.ln q0) then none else
      if (251 : Int32) = 0 then none else
      bnd (rem32 (((5 : Int32) * x2) + (gA M q0 (Int32.toNatClampNeg x3))) (251 : Int32)) fun x2_28 =>
      k6 x1 x2_28 (x3 + (1 : Int32)) M
def fX6_checkOf_6 (n0 : Nat) (q0 : Nat) : Int32 → Int32 → Int32 → Mem → Option (Int32 × Mem) := loopN (bX6_checkOf_6 n0 q0) (fun _ _ _ _ => none) n0
def fX6_checkOf (n0 : Nat) (q0 : Nat) (x1 : Int32) (M : Mem) : Option (Int32 × Mem) :=
  fX6_checkOf_6 n0 q0 x1 (227 : Int32) (0 : Int32) M
theorem tbX6_checkOf_6 (n0 : Nat) (q0 : Nat) (hq0 : isK LX q0 13) (hO : OKc p (rmL 1) s m args meth c LX D cy ad cX6_checkOf RX6 4 1 (some .int)) (k6 : Int32 → Int32 → Int32 → Mem → Option (Int32 × Mem)) (hk6 : ∀ (x1 : Int32) (x2 : Int32) (x3 : Int32) (M : Mem), BL p l e (rmL 1) s m args below meth c LX D cy ad 4 (QI LX D cy ad) 6 [(0, .ref (ad q0)), (1, .int x1), (2, .int x2), (3, .int x3)] [] M (k6 x1 x2 x3 M)) (x1 : Int32) (x2 : Int32) (x3 : Int32) (M : Mem) : BL p l e (rmL 1) s m args below meth c LX D cy ad 4 (QI LX D cy ad) 6 [(0, .ref (ad q0)), (1, .int x1), (2, .int x2), (3, .int x3)] [] M (bX6_checkOf_6 n0 q0 k6 x1 x2 x3 M) := by
  unfold bX6_checkOf_6
  refine b_iload_n hO dX6_checkOf_6 3 rfl rfl ?_
  refine b_iload_n hO dX6_checkOf_7 1 rfl rfl ?_
  refine b_icmp_ge hO dX6_checkOf_8 (tgt := 35) (by decide) ?_ ?_
  · refine b_iload_n hO dX6_checkOf_35 2 rfl rfl ?_
    exact b_iret hO dX6_checkOf_36
  · refine b_iload_n hO dX6_checkOf_11 3 rfl rfl ?_
    refine b_aload_n hO dX6_checkOf_12 0 rfl rfl ?_
    refine b_alen hO hq0 rfl dX6_checkOf_13 ?_
    refine b_icmp_ge hO dX6_checkOf_14 (tgt := 35) (by decide) ?_ ?_
    · refine b_iload_n hO dX6_checkOf_35 2 rfl rfl ?_
      exact b_iret hO dX6_checkOf_36
    · refine b_iconst hO dX6_checkOf_17 ic_i_5 ?_
      refine b_iload_n hO dX6_checkOf_18 2 rfl rfl ?_
      refine b_imul hO dX6_checkOf_19 ?_
      refine b_aload_n hO dX6_checkOf_20 0 rfl rfl ?_
      refine b_iload_n hO dX6_checkOf_21 3 rfl rfl ?_
      refine b_iald hO hq0 (n := (LX.ln q0)) rfl dX6_checkOf_22 ?_
      refine b_iadd hO dX6_checkOf_23 ?_
      refine b_sipush hO dX6_checkOf_24 ic_s_251 ?_
      refine b_irem hO dX6_checkOf_27 ?_
      refine b_topI (fun x2_28 => ?_)
      refine b_istore_n hO dX6_checkOf_28 rfl (by decide) (lv' := [(2, .int _), (0, .ref _), (1, .int _), (3, .int _)]) rfl ?_
      refine b_iinc hO dX6_checkOf_29 3 rfl ic_i_1 (by decide) (lv' := [(3, .int _), (2, .int _), (0, .ref _), (1, .int _)]) rfl ?_
      refine b_goto hO dX6_checkOf_32 (tgt := 6) (by decide) ?_
      refine b_sub [2, 3, 1, 0] rfl ?_
      exact hk6 _ _ _ _
theorem lX6_checkOf_6 (n0 : Nat) (q0 : Nat) (hq0 : isK LX q0 13) (hO : OKc p (rmL 1) s m args meth c LX D cy ad cX6_checkOf RX6 4 1 (some .int)) : ∀ (w : Nat) (x1 : Int32) (x2 : Int32) (x3 : Int32) (M : Mem), BL p l e (rmL 1) s m args below meth c LX D cy ad 4 (QI LX D cy ad) 6 [(0, .ref (ad q0)), (1, .int x1), (2, .int x2), (3, .int x3)] [] M (loopN (bX6_checkOf_6 n0 q0) (fun _ _ _ _ => none) w x1 x2 x3 M) := by
  intro w
  induction w with
  | zero =>
    intros
    exact b_none
  | succ w ih =>
    intro x1 x2 x3 M
    exact tbX6_checkOf_6 n0 q0 hq0 hO _ ih x1 x2 x3 M
theorem tfX6_checkOf_6 (n0 : Nat) (q0 : Nat) (hq0 : isK LX q0 13) (hO : OKc p (rmL 1) s m args meth c LX D cy ad cX6_checkOf RX6 4 1 (some .int)) (x1 : Int32) (x2 : Int32) (x3 : Int32) (M : Mem) : BL p l e (rmL 1) s m args below meth c LX D cy ad 4 (QI LX D cy ad) 6 [(0, .ref (ad q0)), (1, .int x1), (2, .int x2), (3, .int x3)] [] M (fX6_checkOf_6 n0 q0 x1 x2 x3 M) := lX6_checkOf_6 n0 q0 hq0 hO n0 x1 x2 x3 M
theorem tfX6_checkOf (n0 : Nat) (q0 : Nat) (hq0 : isK LX q0 13) (hO : OKc p (rmL 1) s m args meth c LX D cy ad cX6_checkOf RX6 4 1 (some .int)) (x1 : Int32) (M : Mem) : BL p l e (rmL 1) s m args below meth c LX D cy ad 4 (QI LX D cy ad) 0 [(0, .ref (ad q0)), (1, .int x1)] [] M (fX6_checkOf n0 q0 x1 M) := by
  unfold fX6_checkOf
  refine b_sipush hO dX6_checkOf_0 ic_s_227 ?_
  refine b_istore_n hO dX6_checkOf_3 rfl (by decide) (lv' := [(2, .int _), (0, .ref _), (1, .int _)]) rfl ?_
  refine b_iconst hO dX6_checkOf_4 ic_i_0 ?_
  refine b_istore_n hO dX6_checkOf_5 rfl (by decide) (lv' := [(3, .int _), (2, .int _), (0, .ref _), (1, .int _)]) rfl ?_
  refine b_sub [2, 3, 1, 0] rfl ?_
  exact tfX6_checkOf_6 n0 q0 hq0 hO _ _ _ _
theorem ctX6_checkOf (n0 : Nat) (q0 : Nat) (hq0 : isK LX q0 13) (hI : Inj LX ad) (x1 : Int32) (M : Mem) : CT l LX D cy ad yX6_checkOf cX6_checkOf 4 (some .int) 1 (QI LX D cy ad) [.ref (ad q0), .int x1] M (fX6_checkOf n0 q0 x1 M) :=
  CT.mk LXok hI (by decide) (Nat.le_of_ble_eq_true rfl) (fun hO => tfX6_checkOf n0 q0 hq0 hO x1 M)
/-! X6_writeImage -/
def fX6_writeImage_79 (n0 : Nat) (q1 : Nat) (k36 : Int32 → Int32 → Mem → Option (Int32 × Mem)) (x2 : Int32) (x3 : Int32) (x4 : Int32) (u1 : Int32) (u2 : Int32) (M : Mem) : Option (Int32 × Mem) :=
  if oob u1 (LX.ln q1) then none else
  bnd (sA M q1 (Int32.toNatClampNeg u1) u2) fun M79 =>
  if oob x3 5 then none else
  if oob (x4 + (1 : Int32)) (LX.ln q1) then none else
  bnd (sA M79 q1 (Int32.toNatClampNeg (x4 + (1 : Int32))) ((gA M79 12 (Int32.toNatClampNeg x3)) >>> ((8 : Int32) &&& 31))) fun M94 =>
  if oob x3 5 then none else
  if oob (x4 + (2 : Int32)) (LX.ln q1) then none else
  bnd (sA M94 q1 (Int32.toNatClampNeg (x4 + (2 : Int32))) ((gA M94 12 (Int32.toNatClampNeg x3)) &&& (255 : Int32))) fun M110 =>
  k36 x2 (x3 + (1 : Int32)) M110
def bX6_writeImage_119 (n0 : Nat) (q1 : Nat) (k119 : Int32 → Int32 → Mem → Option (Int32 × Mem)) (x2 : Int32) (x3 : Int32) (M : Mem) : Option (Int32 × Mem) :=
  if (gI M (128 * (gR M 1280) + 12)) ≤ x3 then
    (fX6_checkOf n0 q1 (x2 - (1 : Int32)) M).bind fun z165 =>
    if oob (x2 - (1 : Int32)) (LX.ln q1) then none else
    bnd (sA z165.2 q1 (Int32.toNatClampNeg (x2 - (1 : Int32))) z165.1) fun M168 =>
    some (x2, M168)
  else
    if oob x3 6 then none else
    if oob (((2 : Int32) + ((3 : Int32) * (gI M (128 * (gR M 1280) + 5)))) + x3) (LX.ln q1) then none else
    bnd (sA M q1 (Int32.toNatClampNeg (((2 : Int32) + ((3 : Int32) * (gI M (128 * (gR M 1280) + 5)))) + x3)) (gA M 13 (Int32.toNatClampNeg x3))) fun M150 =>
    k119 x2 (x3 + (1 : Int32)) M150
def fX6_writeImage_119 (n0 : Nat) (q1 : Nat) : Int32 → Int32 → Mem → Option (Int32 × Mem) := loopN (bX6_writeImage_119 n0 q1) (fun _ _ _ => none) n0
def bX6_writeImage_36 (n0 : Nat) (q1 : Nat) (k36 : Int32 → Int32 → Mem → Option (Int32 × Mem)) (x2 : Int32) (x3 : Int32) (M : Mem) : Option (Int32 × Mem) :=
  if (gI M (128 * (gR M 1280) + 5)) ≤ x3 then
    fX6_writeImage_119 n0 q1 x2 (0 : Int32) M
  else
    bnd ((2 : Int32) + ((3 : Int32) * x3)) fun x4_52 =>
    if oob x3 5 then none else
    if (gA M 11 (Int32.toNatClampNeg x3)) = (-1 : Int32) then
      fX6_writeImage_79 n0 q1 k36 x2 x3 x4_52 x4_52 (255 : Int32) M
    else
      if oob x3 5 then none else
      fX6_writeImage_79 n0 q1 k36 x2 x3 x4_52 x4_52 (gA M 11 (Int32.toNatClampNeg x3)) M
def fX6_writeImage_36 (n0 : Nat) (q1 : Nat) : Int32 → Int32 → Mem → Option (Int32 × Mem) := loopN (bX6_writeImage_36 n0 q1) (fun _ _ _ => none) n0
def fX6_writeImage (n0 : Nat) (q1 : Nat) (M : Mem) : Option (Int32 × Mem) :=
  (fX6_imageSize n0 M).bind fun z1 =>
  if z1.1 ≤ (Int32.ofNat (LX.ln q1)) then
    if oob (0 : Int32) (LX.ln q1) then none else
    bnd (sA z1.2 q1 (Int32.toNatClampNeg (0 : Int32)) ((gI z1.2 1281) >>> ((8 : Int32) &&& 31))) fun M22 =>
    if oob (1 : Int32) (LX.ln q1) then none else
    bnd (sA M22 q1 (Int32.toNatClampNeg (1 : Int32)) ((gI M22 1281) &&& (255 : Int32))) fun M33 =>
    fX6_writeImage_36 n0 q1 z1.1 (0 : Int32) M33
  else
    some ((0 : Int32), z1.2)
theorem tfX6_writeImage_79 (n0 : Nat) (q1 : Nat) (hq1 : isK LX q1 13) (hO : OKc p (rmL 2) s m args meth c LX D cy ad cX6_writeImage RX6 5 2 (some .int)) (k36 : Int32 → Int32 → Mem → Option (Int32 × Mem)) (hk36 : ∀ (x2 : Int32) (x3 : Int32) (M : Mem), BL p l e (rmL 2) s m args below meth c LX D cy ad 5 (QI LX D cy ad) 36 [(0, .ref (ad 10)), (1, .ref (ad q1)), (2, .int x2), (3, .int x3)] [] M (k36 x2 x3 M)) (x2 : Int32) (x3 : Int32) (x4 : Int32) (u1 : Int32) (u2 : Int32) (M : Mem) : BL p l e (rmL 2) s m args below meth c LX D cy ad 5 (QI LX D cy ad) 79 [(0, .ref (ad 10)), (1, .ref (ad q1)), (2, .int x2), (3, .int x3), (4, .int x4)] [.int u2, .int u1, .ref (ad q1)] M (fX6_writeImage_79 n0 q1 k36 x2 x3 x4 u1 u2 M) := by
  unfold fX6_writeImage_79
  refine b_iast hO hq1 (n := (LX.ln q1)) rfl dX6_writeImage_79 ?_
  refine b_bnd (fun M79 => ?_)
  refine b_aload_n hO dX6_writeImage_80 1 rfl rfl ?_
  refine b_iload hO dX6_writeImage_81 4 rfl ?_
  refine b_iconst hO dX6_writeImage_83 ic_i_1 ?_
  refine b_iadd hO dX6_writeImage_84 ?_
  refine b_aload_n hO dX6_writeImage_85 0 rfl rfl ?_
  refine b_get hO flX6_19 kLX_10 (v := .ref (ad 12)) rfl dX6_writeImage_86 ?_
  refine b_iload_n hO dX6_writeImage_89 3 rfl rfl ?_
  refine b_iald hO kLX_12 (n := 5) rfl dX6_writeImage_90 ?_
  refine b_bipush hO dX6_writeImage_91 ic_b_8 ?_
  refine b_ishr hO dX6_writeImage_93 ?_
  refine b_iast hO hq1 (n := (LX.ln q1)) rfl dX6_writeImage_94 ?_
  refine b_bnd (fun M94 => ?_)
  refine b_aload_n hO dX6_writeImage_95 1 rfl rfl ?_
  refine b_iload hO dX6_writeImage_96 4 rfl ?_
  refine b_iconst hO dX6_writeImage_98 ic_i_2 ?_
  refine b_iadd hO dX6_writeImage_99 ?_
  refine b_aload_n hO dX6_writeImage_100 0 rfl rfl ?_
  refine b_get hO flX6_19 kLX_10 (v := .ref (ad 12)) rfl dX6_writeImage_101 ?_
  refine b_iload_n hO dX6_writeImage_104 3 rfl rfl ?_
  refine b_iald hO kLX_12 (n := 5) rfl dX6_writeImage_105 ?_
  refine b_sipush hO dX6_writeImage_106 ic_s_255 ?_
  refine b_iand hO dX6_writeImage_109 ?_
  refine b_iast hO hq1 (n := (LX.ln q1)) rfl dX6_writeImage_110 ?_
  refine b_bnd (fun M110 => ?_)
  refine b_iinc hO dX6_writeImage_111 3 rfl ic_i_1 (by decide) (lv' := [(3, .int _), (0, .ref _), (1, .ref _), (2, .int _), (4, .int _)]) rfl ?_
  refine b_goto hO dX6_writeImage_114 (tgt := 36) (by decide) ?_
  refine b_sub [1, 2, 3, 0] rfl ?_
  exact hk36 _ _ _
theorem tbX6_writeImage_119 (n0 : Nat) (q1 : Nat) (hq1 : isK LX q1 13) (hO : OKc p (rmL 2) s m args meth c LX D cy ad cX6_writeImage RX6 5 2 (some .int)) (k119 : Int32 → Int32 → Mem → Option (Int32 × Mem)) (hk119 : ∀ (x2 : Int32) (x3 : Int32) (M : Mem), BL p l e (rmL 2) s m args below meth c LX D cy ad 5 (QI LX D cy ad) 119 [(0, .ref (ad 10)), (1, .ref (ad q1)), (2, .int x2), (3, .int x3)] [] M (k119 x2 x3 M)) (x2 : Int32) (x3 : Int32) (M : Mem) : BL p l e (rmL 2) s m args below meth c LX D cy ad 5 (QI LX D cy ad) 119 [(0, .ref (ad 10)), (1, .ref (ad q1)), (2, .int x2), (3, .int x3)] [] M (bX6_writeImage_119 n0 q1 k119 x2 x3 M) := by
  unfold bX6_writeImage_119
  refine b_iload_n hO dX6_writeImage_119 3 rfl rfl ?_
  refine b_aload_n hO dX6_writeImage_120 0 rfl rfl ?_
  refine b_getR hO flX6_34 kLX_10 (id := 1280) rfl rfl (rk := 9) rfl (by decide) dX6_writeImage_121 (fun hg1 => ?_)
  refine b_get hO flX6_50 hg1 (v := .int (gI _ (128 * (gR M 1280) + 12))) rfl dX6_writeImage_124 ?_
  refine b_icmp_ge hO dX6_writeImage_127 (tgt := 157) (by decide) ?_ ?_
  · refine b_aload_n hO dX6_writeImage_157 1 rfl rfl ?_
    refine b_iload_n hO dX6_writeImage_158 2 rfl rfl ?_
    refine b_iconst hO dX6_writeImage_159 ic_i_1 ?_
    refine b_isub hO dX6_writeImage_160 ?_
    refine b_aload_n hO dX6_writeImage_161 1 rfl rfl ?_
    refine b_iload_n hO dX6_writeImage_162 2 rfl rfl ?_
    refine b_iconst hO dX6_writeImage_163 ic_i_1 ?_
    refine b_isub hO dX6_writeImage_164 ?_
    refine b_callSI hO mdX6_checkOf w1207 w1206 (As := [.ref _, .int _]) (st := [.int _, .ref _]) (ctX6_checkOf n0 _ hq1 hO.2.2.2.2.2.2.1 _ _) (Nat.le_of_ble_eq_true rfl) rfl rfl (Nat.le_of_ble_eq_true rfl) dX6_writeImage_165 (fun z165 => ?_)
    refine b_iast hO hq1 (n := (LX.ln q1)) rfl dX6_writeImage_168 ?_
    refine b_bnd (fun M168 => ?_)
    refine b_iload_n hO dX6_writeImage_169 2 rfl rfl ?_
    exact b_iret hO dX6_writeImage_170
  · refine b_aload_n hO dX6_writeImage_130 1 rfl rfl ?_
    refine b_iconst hO dX6_writeImage_131 ic_i_2 ?_
    refine b_iconst hO dX6_writeImage_132 ic_i_3 ?_
    refine b_aload_n hO dX6_writeImage_133 0 rfl rfl ?_
    refine b_getR hO flX6_34 kLX_10 (id := 1280) rfl rfl (rk := 9) rfl (by decide) dX6_writeImage_134 (fun hg2 => ?_)
    refine b_get hO flX6_38 hg2 (v := .int (gI _ (128 * (gR M 1280) + 5))) rfl dX6_writeImage_137 ?_
    refine b_imul hO dX6_writeImage_140 ?_
    refine b_iadd hO dX6_writeImage_141 ?_
    refine b_iload_n hO dX6_writeImage_142 3 rfl rfl ?_
    refine b_iadd hO dX6_writeImage_143 ?_
    refine b_aload_n hO dX6_writeImage_144 0 rfl rfl ?_
    refine b_get hO flX6_22 kLX_10 (v := .ref (ad 13)) rfl dX6_writeImage_145 ?_
    refine b_iload_n hO dX6_writeImage_148 3 rfl rfl ?_
    refine b_iald hO kLX_13 (n := 6) rfl dX6_writeImage_149 ?_
    refine b_iast hO hq1 (n := (LX.ln q1)) rfl dX6_writeImage_150 ?_
    refine b_bnd (fun M150 => ?_)
    refine b_iinc hO dX6_writeImage_151 3 rfl ic_i_1 (by decide) (lv' := [(3, .int _), (0, .ref _), (1, .ref _), (2, .int _)]) rfl ?_
    refine b_goto hO dX6_writeImage_154 (tgt := 119) (by decide) ?_
    refine b_sub [1, 2, 3, 0] rfl ?_
    exact hk119 _ _ _
theorem lX6_writeImage_119 (n0 : Nat) (q1 : Nat) (hq1 : isK LX q1 13) (hO : OKc p (rmL 2) s m args meth c LX D cy ad cX6_writeImage RX6 5 2 (some .int)) : ∀ (w : Nat) (x2 : Int32) (x3 : Int32) (M : Mem), BL p l e (rmL 2) s m args below meth c LX D cy ad 5 (QI LX D cy ad) 119 [(0, .ref (ad 10)), (1, .ref (ad q1)), (2, .int x2), (3, .int x3)] [] M (loopN (bX6_writeImage_119 n0 q1) (fun _ _ _ => none) w x2 x3 M) := by
  intro w
  induction w with
  | zero =>
    intros
    exact b_none
  | succ w ih =>
    intro x2 x3 M
    exact tbX6_writeImage_119 n0 q1 hq1 hO _ ih x2 x3 M
theorem tfX6_writeImage_119 (n0 : Nat) (q1 : Nat) (hq1 : isK LX q1 13) (hO : OKc p (rmL 2) s m args meth c LX D cy ad cX6_writeImage RX6 5 2 (some .int)) (x2 : Int32) (x3 : Int32) (M : Mem) : BL p l e (rmL 2) s m args below meth c LX D cy ad 5 (QI LX D cy ad) 119 [(0, .ref (ad 10)), (1, .ref (ad q1)), (2, .int x2), (3, .int x3)] [] M (fX6_writeImage_119 n0 q1 x2 x3 M) := lX6_writeImage_119 n0 q1 hq1 hO n0 x2 x3 M
theorem tbX6_writeImage_36 (n0 : Nat) (q1 : Nat) (hq1 : isK LX q1 13) (hO : OKc p (rmL 2) s m args meth c LX D cy ad cX6_writeImage RX6 5 2 (some .int)) (k36 : Int32 → Int32 → Mem → Option (Int32 × Mem)) (hk36 : ∀ (x2 : Int32) (x3 : Int32) (M : Mem), BL p l e (rmL 2) s m args below meth c LX D cy ad 5 (QI LX D cy ad) 36 [(0, .ref (ad 10)), (1, .ref (ad q1)), (2, .int x2), (3, .int x3)] [] M (k36 x2 x3 M)) (x2 : Int32) (x3 : Int32) (M : Mem) : BL p l e (rmL 2) s m args below meth c LX D cy ad 5 (QI LX D cy ad) 36 [(0, .ref (ad 10)), (1, .ref (ad q1)), (2, .int x2), (3, .int x3)] [] M (bX6_writeImage_36 n0 q1 k36 x2 x3 M) := by
  unfold bX6_writeImage_36
  refine b_iload_n hO dX6_writeImage_36 3 rfl rfl ?_
  refine b_aload_n hO dX6_writeImage_37 0 rfl rfl ?_
  refine b_getR hO flX6_34 kLX_10 (id := 1280) rfl rfl (rk := 9) rfl (by decide) dX6_writeImage_38 (fun hg1 => ?_)
  refine b_get hO flX6_38 hg1 (v := .int (gI _ (128 * (gR M 1280) + 5))) rfl dX6_writeImage_41 ?_
  refine b_icmp_ge hO dX6_writeImage_44 (tgt := 117) (by decide) ?_ ?_
  · refine b_iconst hO dX6_writeImage_117 ic_i_0 ?_
    refine b_istore_n hO dX6_writeImage_118 rfl (by decide) (lv' := [(3, .int _), (0, .ref _), (1, .ref _), (2, .int _)]) rfl ?_
    refine b_sub [1, 2, 3, 0] rfl ?_
    exact tfX6_writeImage_119 n0 q1 hq1 hO _ _ _
  · refine b_iconst hO dX6_writeImage_47 ic_i_2 ?_
    refine b_iconst hO dX6_writeImage_48 ic_i_3 ?_
    refine b_iload_n hO dX6_writeImage_49 3 rfl rfl ?_
    refine b_imul hO dX6_writeImage_50 ?_
    refine b_iadd hO dX6_writeImage_51 ?_
    refine b_topI (fun x4_52 => ?_)
    refine b_istore hO dX6_writeImage_52 (by decide) (lv' := [(4, .int _), (0, .ref _), (1, .ref _), (2, .int _), (3, .int _)]) rfl ?_
    refine b_aload_n hO dX6_writeImage_54 2 rfl rfl ?_
    refine b_iload hO dX6_writeImage_55 0 rfl ?_
    refine b_aload_n hO dX6_writeImage_57 1 rfl rfl ?_
    refine b_get hO flX6_15 kLX_10 (v := .ref (ad 11)) rfl dX6_writeImage_58 ?_
    refine b_iload_n hO dX6_writeImage_61 4 rfl rfl ?_
    refine b_iald hO kLX_11 (n := 5) rfl dX6_writeImage_62 ?_
    refine b_iconst hO dX6_writeImage_63 ic_i_m1 ?_
    refine b_icmp_ne hO dX6_writeImage_64 (tgt := 73) (by decide) ?_ ?_
    · refine b_aload_n hO dX6_writeImage_73 1 rfl rfl ?_
      refine b_get hO flX6_15 kLX_10 (v := .ref (ad 11)) rfl dX6_writeImage_74 ?_
      refine b_iload_n hO dX6_writeImage_77 4 rfl rfl ?_
      refine b_iald hO kLX_11 (n := 5) rfl dX6_writeImage_78 ?_
      refine b_sub [1, 2, 3, 4, 0] rfl ?_
      exact tfX6_writeImage_79 n0 q1 hq1 hO k36 hk36 _ _ _ _ _ _
    · refine b_sipush hO dX6_writeImage_67 ic_s_255 ?_
      refine b_goto hO dX6_writeImage_70 (tgt := 79) (by decide) ?_
      refine b_sub [1, 2, 3, 4, 0] rfl ?_
      exact tfX6_writeImage_79 n0 q1 hq1 hO k36 hk36 _ _ _ _ _ _
theorem lX6_writeImage_36 (n0 : Nat) (q1 : Nat) (hq1 : isK LX q1 13) (hO : OKc p (rmL 2) s m args meth c LX D cy ad cX6_writeImage RX6 5 2 (some .int)) : ∀ (w : Nat) (x2 : Int32) (x3 : Int32) (M : Mem), BL p l e (rmL 2) s m args below meth c LX D cy ad 5 (QI LX D cy ad) 36 [(0, .ref (ad 10)), (1, .ref (ad q1)), (2, .int x2), (3, .int x3)] [] M (loopN (bX6_writeImage_36 n0 q1) (fun _ _ _ => none) w x2 x3 M) := by
  intro w
  induction w with
  | zero =>
    intros
    exact b_none
  | succ w ih =>
    intro x2 x3 M
    exact tbX6_writeImage_36 n0 q1 hq1 hO _ ih x2 x3 M
theorem tfX6_writeImage_36 (n0 : Nat) (q1 : Nat) (hq1 : isK LX q1 13) (hO : OKc p (rmL 2) s m args meth c LX D cy ad cX6_writeImage RX6 5 2 (some .int)) (x2 : Int32) (x3 : Int32) (M : Mem) : BL p l e (rmL 2) s m args below meth c LX D cy ad 5 (QI LX D cy ad) 36 [(0, .ref (ad 10)), (1, .ref (ad q1)), (2, .int x2), (3, .int x3)] [] M (fX6_writeImage_36 n0 q1 x2 x3 M) := lX6_writeImage_36 n0 q1 hq1 hO n0 x2 x3 M
theorem tfX6_writeImage (n0 : Nat) (q1 : Nat) (hq1 : isK LX q1 13) (hO : OKc p (rmL 2) s m args meth c LX D cy ad cX6_writeImage RX6 5 2 (some .int)) (M : Mem) : BL p l e (rmL 2) s m args below meth c LX D cy ad 5 (QI LX D cy ad) 0 [(0, .ref (ad 10)), (1, .ref (ad q1))] [] M (fX6_writeImage n0 q1 M) := by
  unfold fX6_writeImage
  refine b_aload_n hO dX6_writeImage_0 0 rfl rfl ?_
  refine b_callVI hO mdX6_imageSize mvX6_imageSize w1202 (ci := 6) rfl rfl (by decide) kLX_10 (As := []) (st := []) (ctX6_imageSize n0 hO.2.2.2.2.2.2.1 _) (Nat.le_of_ble_eq_true rfl) rfl rfl (Nat.le_of_ble_eq_true rfl) dX6_writeImage_1 (fun z1 => ?_)
  refine b_istore_n hO dX6_writeImage_4 rfl (by decide) (lv' := [(2, .int _), (0, .ref _), (1, .ref _)]) rfl ?_
  refine b_aload_n hO dX6_writeImage_5 2 rfl rfl ?_
  refine b_alen hO hq1 rfl dX6_writeImage_6 ?_
  refine b_iload_n hO dX6_writeImage_7 0 rfl rfl ?_
  refine b_icmp_ge hO dX6_writeImage_8 (tgt := 13) (by decide) ?_ ?_
  · refine b_aload_n hO dX6_writeImage_13 2 rfl rfl ?_
    refine b_iconst hO dX6_writeImage_14 ic_i_0 ?_
    refine b_aload_n hO dX6_writeImage_15 1 rfl rfl ?_
    refine b_get hO flX6_9 kLX_10 (v := .int (gI _ 1281)) rfl dX6_writeImage_16 ?_
    refine b_bipush hO dX6_writeImage_19 ic_b_8 ?_
    refine b_ishr hO dX6_writeImage_21 ?_
    refine b_iast hO hq1 (n := (LX.ln q1)) rfl dX6_writeImage_22 ?_
    refine b_bnd (fun M22 => ?_)
    refine b_aload_n hO dX6_writeImage_23 2 rfl rfl ?_
    refine b_iconst hO dX6_writeImage_24 ic_i_1 ?_
    refine b_aload_n hO dX6_writeImage_25 1 rfl rfl ?_
    refine b_get hO flX6_9 kLX_10 (v := .int (gI _ 1281)) rfl dX6_writeImage_26 ?_
    refine b_sipush hO dX6_writeImage_29 ic_s_255 ?_
    refine b_iand hO dX6_writeImage_32 ?_
    refine b_iast hO hq1 (n := (LX.ln q1)) rfl dX6_writeImage_33 ?_
    refine b_bnd (fun M33 => ?_)
    refine b_iconst hO dX6_writeImage_34 ic_i_0 ?_
    refine b_istore_n hO dX6_writeImage_35 rfl (by decide) (lv' := [(3, .int _), (2, .int _), (0, .ref _), (1, .ref _)]) rfl ?_
    refine b_sub [2, 3, 1, 0] rfl ?_
    exact tfX6_writeImage_36 n0 q1 hq1 hO _ _ _
  · refine b_iconst hO dX6_writeImage_11 ic_i_0 ?_
    exact b_iret hO dX6_writeImage_12
theorem ctX6_writeImage (n0 : Nat) (q1 : Nat) (hq1 : isK LX q1 13) (hI : Inj LX ad) (M : Mem) : CT l LX D cy ad yX6_writeImage cX6_writeImage 5 (some .int) 2 (QI LX D cy ad) [.ref (ad 10), .ref (ad q1)] M (fX6_writeImage n0 q1 M) :=
  CT.mk LXok hI (by decide) (Nat.le_of_ble_eq_true rfl) (fun hO => tfX6_writeImage n0 q1 hq1 hO M)
/-! X6_isImage -/
def fX6_isImage_75 (n0 : Nat) (k28 : Int32 → Int32 → Mem → Option (Int32 × Mem)) (x2 : Int32) (x3 : Int32) (u0 : Int32) (M : Mem) : Option (Int32 × Mem) :=
  if u0 = 0 then
    some ((0 : Int32), M)
  else
    (fX7_pairAt n0 ((3 : Int32) + ((3 : Int32) * x3)) M).bind fun z88 =>
    if z88.1 ≤ (999 : Int32) then
      k28 x2 (x3 + (1 : Int32)) z88.2
    else
      some ((0 : Int32), z88.2)
def fX6_isImage_70 (n0 : Nat) (k28 : Int32 → Int32 → Mem → Option (Int32 × Mem)) (x2 : Int32) (x3 : Int32) (M : Mem) : Option (Int32 × Mem) :=
  fX6_isImage_75 n0 k28 x2 x3 (1 : Int32) M
def bX6_isImage_107 (n0 : Nat) (k107 : Int32 → Int32 → Mem → Option (Int32 × Mem)) (x2 : Int32) (x3 : Int32) (M : Mem) : Option (Int32 × Mem) :=
  if (gI M (128 * (gR M 1280) + 12)) ≤ x3 then
    (fX7_at n0 (x2 - (1 : Int32)) M).bind fun z151 =>
    (fX6_checkOf n0 6 (x2 - (1 : Int32)) z151.2).bind fun z161 =>
    if z151.1 = z161.1 then
      some ((1 : Int32), z161.2)
    else
      some ((0 : Int32), z161.2)
  else
    (fX7_at n0 (((2 : Int32) + ((3 : Int32) * (gI M (128 * (gR M 1280) + 5)))) + x3) M).bind fun z132 =>
    if z132.1 ≤ (1 : Int32) then
      k107 x2 (x3 + (1 : Int32)) z132.2
    else
      some ((0 : Int32), z132.2)
def fX6_isImage_107 (n0 : Nat) : Int32 → Int32 → Mem → Option (Int32 × Mem) := loopN (bX6_isImage_107 n0) (fun _ _ _ => none) n0
def bX6_isImage_28 (n0 : Nat) (k28 : Int32 → Int32 → Mem → Option (Int32 × Mem)) (x2 : Int32) (x3 : Int32) (M : Mem) : Option (Int32 × Mem) :=
  if (gI M (128 * (gR M 1280) + 5)) ≤ x3 then
    fX6_isImage_107 n0 x2 (0 : Int32) M
  else
    (fX7_at n0 ((2 : Int32) + ((3 : Int32) * x3)) M).bind fun z45 =>
    if z45.1 = (255 : Int32) then
      fX6_isImage_70 n0 k28 x2 x3 z45.2
    else
      (fX9_isThing n0 (gR z45.2 1280) z45.1 z45.2).bind fun z64 =>
      if z64.1 = 0 then
        fX6_isImage_75 n0 k28 x2 x3 (0 : Int32) z64.2
      else
        fX6_isImage_70 n0 k28 x2 x3 z64.2
def fX6_isImage_28 (n0 : Nat) : Int32 → Int32 → Mem → Option (Int32 × Mem) := loopN (bX6_isImage_28 n0) (fun _ _ _ => none) n0
def fX6_isImage (n0 : Nat) (M : Mem) : Option (Int32 × Mem) :=
  (fX6_imageSize n0 M).bind fun z1 =>
  if (gI z1.2 641) = z1.1 then
    (fX7_pairAt n0 (0 : Int32) z1.2).bind fun z15 =>
    if z15.1 ≤ (9999 : Int32) then
      fX6_isImage_28 n0 z1.1 (0 : Int32) z15.2
    else
      some ((0 : Int32), z15.2)
  else
    some ((0 : Int32), z1.2)
theorem tfX6_isImage_75 (n0 : Nat) (hO : OKc p (rmL 3) s m args meth c LX D cy ad cX6_isImage RX6 6 3 (some .boolean)) (k28 : Int32 → Int32 → Mem → Option (Int32 × Mem)) (hk28 : ∀ (x2 : Int32) (x3 : Int32) (M : Mem), BL p l e (rmL 3) s m args below meth c LX D cy ad 6 (QI LX D cy ad) 28 [(0, .ref (ad 10)), (1, .ref (ad 5)), (2, .int x2), (3, .int x3)] [] M (k28 x2 x3 M)) (x2 : Int32) (x3 : Int32) (u0 : Int32) (M : Mem) : BL p l e (rmL 3) s m args below meth c LX D cy ad 6 (QI LX D cy ad) 75 [(0, .ref (ad 10)), (1, .ref (ad 5)), (2, .int x2), (3, .int x3)] [.int u0] M (fX6_isImage_75 n0 k28 x2 x3 u0 M) := by
  unfold fX6_isImage_75
  refine b_istore hO dX6_isImage_75 (by decide) (lv' := [(5, .int _), (0, .ref _), (1, .ref _), (2, .int _), (3, .int _)]) rfl ?_
  refine b_iload hO dX6_isImage_77 0 rfl ?_
  refine b_if_eq hO dX6_isImage_79 (tgt := 97) (by decide) ?_ ?_
  · refine b_iconst hO dX6_isImage_97 ic_i_0 ?_
    exact b_zretc hO (Or.inl rfl) dX6_isImage_98
  · refine b_aload_n hO dX6_isImage_82 2 rfl rfl ?_
    refine b_iconst hO dX6_isImage_83 ic_i_3 ?_
    refine b_iconst hO dX6_isImage_84 ic_i_3 ?_
    refine b_iload_n hO dX6_isImage_85 4 rfl rfl ?_
    refine b_imul hO dX6_isImage_86 ?_
    refine b_iadd hO dX6_isImage_87 ?_
    refine b_callVI hO mdX7_pairAt mvX7_pairAt w1221 (ci := 7) rfl rfl (by decide) kLX_5 (As := [.int _]) (st := []) (ctX7_pairAt n0 hO.2.2.2.2.2.2.1 _ _) (Nat.le_of_ble_eq_true rfl) rfl rfl (Nat.le_of_ble_eq_true rfl) dX6_isImage_88 (fun z88 => ?_)
    refine b_sipush hO dX6_isImage_91 ic_s_999 ?_
    refine b_icmp_le hO dX6_isImage_94 (tgt := 99) (by decide) ?_ ?_
    · refine b_iinc hO dX6_isImage_99 4 rfl ic_i_1 (by decide) (lv' := [(3, .int _), (5, .int _), (0, .ref _), (1, .ref _), (2, .int _)]) rfl ?_
      refine b_goto hO dX6_isImage_102 (tgt := 28) (by decide) ?_
      refine b_sub [2, 3, 4, 0] rfl ?_
      exact hk28 _ _ _
    · refine b_iconst hO dX6_isImage_97 ic_i_0 ?_
      exact b_zretc hO (Or.inl rfl) dX6_isImage_98
theorem tfX6_isImage_70 (n0 : Nat) (hO : OKc p (rmL 3) s m args meth c LX D cy ad cX6_isImage RX6 6 3 (some .boolean)) (k28 : Int32 → Int32 → Mem → Option (Int32 × Mem)) (hk28 : ∀ (x2 : Int32) (x3 : Int32) (M : Mem), BL p l e (rmL 3) s m args below meth c LX D cy ad 6 (QI LX D cy ad) 28 [(0, .ref (ad 10)), (1, .ref (ad 5)), (2, .int x2), (3, .int x3)] [] M (k28 x2 x3 M)) (x2 : Int32) (x3 : Int32) (M : Mem) : BL p l e (rmL 3) s m args below meth c LX D cy ad 6 (QI LX D cy ad) 70 [(0, .ref (ad 10)), (1, .ref (ad 5)), (2, .int x2), (3, .int x3)] [] M (fX6_isImage_70 n0 k28 x2 x3 M) := by
  unfold fX6_isImage_70
  refine b_iconst hO dX6_isImage_70 ic_i_1 ?_
  refine b_goto hO dX6_isImage_71 (tgt := 75) (by decide) ?_
  exact tfX6_isImage_75 n0 hO k28 hk28 _ _ _ _
theorem tbX6_isImage_107 (n0 : Nat) (hO : OKc p (rmL 3) s m args meth c LX D cy ad cX6_isImage RX6 6 3 (some .boolean)) (k107 : Int32 → Int32 → Mem → Option (Int32 × Mem)) (hk107 : ∀ (x2 : Int32) (x3 : Int32) (M : Mem), BL p l e (rmL 3) s m args below meth c LX D cy ad 6 (QI LX D cy ad) 107 [(0, .ref (ad 10)), (1, .ref (ad 5)), (2, .int x2), (3, .int x3)] [] M (k107 x2 x3 M)) (x2 : Int32) (x3 : Int32) (M : Mem) : BL p l e (rmL 3) s m args below meth c LX D cy ad 6 (QI LX D cy ad) 107 [(0, .ref (ad 10)), (1, .ref (ad 5)), (2, .int x2), (3, .int x3)] [] M (bX6_isImage_107 n0 k107 x2 x3 M) := by
  unfold bX6_isImage_107
  refine b_iload_n hO dX6_isImage_107 3 rfl rfl ?_
  refine b_aload_n hO dX6_isImage_108 0 rfl rfl ?_
  refine b_getR hO flX6_34 kLX_10 (id := 1280) rfl rfl (rk := 9) rfl (by decide) dX6_isImage_109 (fun hg1 => ?_)
  refine b_get hO flX6_50 hg1 (v := .int (gI _ (128 * (gR M 1280) + 12))) rfl dX6_isImage_112 ?_
  refine b_icmp_ge hO dX6_isImage_115 (tgt := 147) (by decide) ?_ ?_
  · refine b_aload_n hO dX6_isImage_147 1 rfl rfl ?_
    refine b_iload_n hO dX6_isImage_148 2 rfl rfl ?_
    refine b_iconst hO dX6_isImage_149 ic_i_1 ?_
    refine b_isub hO dX6_isImage_150 ?_
    refine b_callVI hO mdX7_at mvX7_at w1226 (ci := 7) rfl rfl (by decide) kLX_5 (As := [.int _]) (st := []) (ctX7_at n0 hO.2.2.2.2.2.2.1 _ _) (Nat.le_of_ble_eq_true rfl) rfl rfl (Nat.le_of_ble_eq_true rfl) dX6_isImage_151 (fun z151 => ?_)
    refine b_aload_n hO dX6_isImage_154 1 rfl rfl ?_
    refine b_get hO flX6_120 kLX_5 (v := .ref (ad 6)) rfl dX6_isImage_155 ?_
    refine b_iload_n hO dX6_isImage_158 2 rfl rfl ?_
    refine b_iconst hO dX6_isImage_159 ic_i_1 ?_
    refine b_isub hO dX6_isImage_160 ?_
    refine b_callSI hO mdX6_checkOf w1207 w1206 (As := [.ref _, .int _]) (st := [.int _]) (ctX6_checkOf n0 _ kLX_6 hO.2.2.2.2.2.2.1 _ _) (Nat.le_of_ble_eq_true rfl) rfl rfl (Nat.le_of_ble_eq_true rfl) dX6_isImage_161 (fun z161 => ?_)
    refine b_icmp_ne hO dX6_isImage_164 (tgt := 171) (by decide) ?_ ?_
    · refine b_iconst hO dX6_isImage_171 ic_i_0 ?_
      exact b_zretc hO (Or.inl rfl) dX6_isImage_172
    · refine b_iconst hO dX6_isImage_167 ic_i_1 ?_
      refine b_goto hO dX6_isImage_168 (tgt := 172) (by decide) ?_
      exact b_zretc hO (Or.inr rfl) dX6_isImage_172
  · refine b_aload_n hO dX6_isImage_118 1 rfl rfl ?_
    refine b_iconst hO dX6_isImage_119 ic_i_2 ?_
    refine b_iconst hO dX6_isImage_120 ic_i_3 ?_
    refine b_aload_n hO dX6_isImage_121 0 rfl rfl ?_
    refine b_getR hO flX6_34 kLX_10 (id := 1280) rfl rfl (rk := 9) rfl (by decide) dX6_isImage_122 (fun hg2 => ?_)
    refine b_get hO flX6_38 hg2 (v := .int (gI _ (128 * (gR M 1280) + 5))) rfl dX6_isImage_125 ?_
    refine b_imul hO dX6_isImage_128 ?_
    refine b_iadd hO dX6_isImage_129 ?_
    refine b_iload_n hO dX6_isImage_130 3 rfl rfl ?_
    refine b_iadd hO dX6_isImage_131 ?_
    refine b_callVI hO mdX7_at mvX7_at w1226 (ci := 7) rfl rfl (by decide) kLX_5 (As := [.int _]) (st := []) (ctX7_at n0 hO.2.2.2.2.2.2.1 _ _) (Nat.le_of_ble_eq_true rfl) rfl rfl (Nat.le_of_ble_eq_true rfl) dX6_isImage_132 (fun z132 => ?_)
    refine b_iconst hO dX6_isImage_135 ic_i_1 ?_
    refine b_icmp_le hO dX6_isImage_136 (tgt := 141) (by decide) ?_ ?_
    · refine b_iinc hO dX6_isImage_141 3 rfl ic_i_1 (by decide) (lv' := [(3, .int _), (0, .ref _), (1, .ref _), (2, .int _)]) rfl ?_
      refine b_goto hO dX6_isImage_144 (tgt := 107) (by decide) ?_
      refine b_sub [1, 2, 3, 0] rfl ?_
      exact hk107 _ _ _
    · refine b_iconst hO dX6_isImage_139 ic_i_0 ?_
      exact b_zretc hO (Or.inl rfl) dX6_isImage_140
theorem lX6_isImage_107 (n0 : Nat) (hO : OKc p (rmL 3) s m args meth c LX D cy ad cX6_isImage RX6 6 3 (some .boolean)) : ∀ (w : Nat) (x2 : Int32) (x3 : Int32) (M : Mem), BL p l e (rmL 3) s m args below meth c LX D cy ad 6 (QI LX D cy ad) 107 [(0, .ref (ad 10)), (1, .ref (ad 5)), (2, .int x2), (3, .int x3)] [] M (loopN (bX6_isImage_107 n0) (fun _ _ _ => none) w x2 x3 M) := by
  intro w
  induction w with
  | zero =>
    intros
    exact b_none
  | succ w ih =>
    intro x2 x3 M
    exact tbX6_isImage_107 n0 hO _ ih x2 x3 M
theorem tfX6_isImage_107 (n0 : Nat) (hO : OKc p (rmL 3) s m args meth c LX D cy ad cX6_isImage RX6 6 3 (some .boolean)) (x2 : Int32) (x3 : Int32) (M : Mem) : BL p l e (rmL 3) s m args below meth c LX D cy ad 6 (QI LX D cy ad) 107 [(0, .ref (ad 10)), (1, .ref (ad 5)), (2, .int x2), (3, .int x3)] [] M (fX6_isImage_107 n0 x2 x3 M) := lX6_isImage_107 n0 hO n0 x2 x3 M
theorem tbX6_isImage_28 (n0 : Nat) (hO : OKc p (rmL 3) s m args meth c LX D cy ad cX6_isImage RX6 6 3 (some .boolean)) (k28 : Int32 → Int32 → Mem → Option (Int32 × Mem)) (hk28 : ∀ (x2 : Int32) (x3 : Int32) (M : Mem), BL p l e (rmL 3) s m args below meth c LX D cy ad 6 (QI LX D cy ad) 28 [(0, .ref (ad 10)), (1, .ref (ad 5)), (2, .int x2), (3, .int x3)] [] M (k28 x2 x3 M)) (x2 : Int32) (x3 : Int32) (M : Mem) : BL p l e (rmL 3) s m args below meth c LX D cy ad 6 (QI LX D cy ad) 28 [(0, .ref (ad 10)), (1, .ref (ad 5)), (2, .int x2), (3, .int x3)] [] M (bX6_isImage_28 n0 k28 x2 x3 M) := by
  unfold bX6_isImage_28
  refine b_iload_n hO dX6_isImage_28 3 rfl rfl ?_
  refine b_aload_n hO dX6_isImage_29 0 rfl rfl ?_
  refine b_getR hO flX6_34 kLX_10 (id := 1280) rfl rfl (rk := 9) rfl (by decide) dX6_isImage_30 (fun hg1 => ?_)
  refine b_get hO flX6_38 hg1 (v := .int (gI _ (128 * (gR M 1280) + 5))) rfl dX6_isImage_33 ?_
  refine b_icmp_ge hO dX6_isImage_36 (tgt := 105) (by decide) ?_ ?_
  · refine b_iconst hO dX6_isImage_105 ic_i_0 ?_
    refine b_istore_n hO dX6_isImage_106 rfl (by decide) (lv' := [(3, .int _), (0, .ref _), (1, .ref _), (2, .int _)]) rfl ?_
    refine b_sub [1, 2, 3, 0] rfl ?_
    exact tfX6_isImage_107 n0 hO _ _ _
  · refine b_aload_n hO dX6_isImage_39 1 rfl rfl ?_
    refine b_iconst hO dX6_isImage_40 ic_i_2 ?_
    refine b_iconst hO dX6_isImage_41 ic_i_3 ?_
    refine b_iload_n hO dX6_isImage_42 3 rfl rfl ?_
    refine b_imul hO dX6_isImage_43 ?_
    refine b_iadd hO dX6_isImage_44 ?_
    refine b_callVI hO mdX7_at mvX7_at w1226 (ci := 7) rfl rfl (by decide) kLX_5 (As := [.int _]) (st := []) (ctX7_at n0 hO.2.2.2.2.2.2.1 _ _) (Nat.le_of_ble_eq_true rfl) rfl rfl (Nat.le_of_ble_eq_true rfl) dX6_isImage_45 (fun z45 => ?_)
    refine b_istore hO dX6_isImage_48 (by decide) (lv' := [(4, .int _), (0, .ref _), (1, .ref _), (2, .int _), (3, .int _)]) rfl ?_
    refine b_iload hO dX6_isImage_50 0 rfl ?_
    refine b_sipush hO dX6_isImage_52 ic_s_255 ?_
    refine b_icmp_eq hO dX6_isImage_55 (tgt := 70) (by decide) ?_ ?_
    · refine b_sub [1, 2, 3, 4] rfl ?_
      exact tfX6_isImage_70 n0 hO k28 hk28 _ _ _
    · refine b_aload_n hO dX6_isImage_58 1 rfl rfl ?_
      refine b_getR hO flX6_34 kLX_10 (id := 1280) rfl rfl (rk := 9) rfl (by decide) dX6_isImage_59 (fun hg2 => ?_)
      refine b_iload hO dX6_isImage_62 0 rfl ?_
      refine b_callVI hO mdX9_isThing mvX9_isThing w1227 (ci := 9) rfl rfl (by decide) hg2 (As := [.int _]) (st := []) (ctX9_isThing n0 _ hg2 hO.2.2.2.2.2.2.1 _ _) (Nat.le_of_ble_eq_true rfl) rfl rfl (Nat.le_of_ble_eq_true rfl) dX6_isImage_64 (fun z64 => ?_)
      refine b_if_eq hO dX6_isImage_67 (tgt := 74) (by decide) ?_ ?_
      · refine b_iconst hO dX6_isImage_74 ic_i_0 ?_
        refine b_sub [1, 2, 3, 4] rfl ?_
        exact tfX6_isImage_75 n0 hO k28 hk28 _ _ _ _
      · refine b_sub [1, 2, 3, 4] rfl ?_
        exact tfX6_isImage_70 n0 hO k28 hk28 _ _ _
theorem lX6_isImage_28 (n0 : Nat) (hO : OKc p (rmL 3) s m args meth c LX D cy ad cX6_isImage RX6 6 3 (some .boolean)) : ∀ (w : Nat) (x2 : Int32) (x3 : Int32) (M : Mem), BL p l e (rmL 3) s m args below meth c LX D cy ad 6 (QI LX D cy ad) 28 [(0, .ref (ad 10)), (1, .ref (ad 5)), (2, .int x2), (3, .int x3)] [] M (loopN (bX6_isImage_28 n0) (fun _ _ _ => none) w x2 x3 M) := by
  intro w
  induction w with
  | zero =>
    intros
    exact b_none
  | succ w ih =>
    intro x2 x3 M
    exact tbX6_isImage_28 n0 hO _ ih x2 x3 M
theorem tfX6_isImage_28 (n0 : Nat) (hO : OKc p (rmL 3) s m args meth c LX D cy ad cX6_isImage RX6 6 3 (some .boolean)) (x2 : Int32) (x3 : Int32) (M : Mem) : BL p l e (rmL 3) s m args below meth c LX D cy ad 6 (QI LX D cy ad) 28 [(0, .ref (ad 10)), (1, .ref (ad 5)), (2, .int x2), (3, .int x3)] [] M (fX6_isImage_28 n0 x2 x3 M) := lX6_isImage_28 n0 hO n0 x2 x3 M
theorem tfX6_isImage (n0 : Nat) (hO : OKc p (rmL 3) s m args meth c LX D cy ad cX6_isImage RX6 6 3 (some .boolean)) (M : Mem) : BL p l e (rmL 3) s m args below meth c LX D cy ad 6 (QI LX D cy ad) 0 [(0, .ref (ad 10)), (1, .ref (ad 5))] [] M (fX6_isImage n0 M) := by
  unfold fX6_isImage
  refine b_aload_n hO dX6_isImage_0 0 rfl rfl ?_
  refine b_callVI hO mdX6_imageSize mvX6_imageSize w1202 (ci := 6) rfl rfl (by decide) kLX_10 (As := []) (st := []) (ctX6_imageSize n0 hO.2.2.2.2.2.2.1 _) (Nat.le_of_ble_eq_true rfl) rfl rfl (Nat.le_of_ble_eq_true rfl) dX6_isImage_1 (fun z1 => ?_)
  refine b_istore_n hO dX6_isImage_4 rfl (by decide) (lv' := [(2, .int _), (0, .ref _), (1, .ref _)]) rfl ?_
  refine b_aload_n hO dX6_isImage_5 2 rfl rfl ?_
  refine b_get hO flX6_104 kLX_5 (v := .int (gI _ 641)) rfl dX6_isImage_6 ?_
  refine b_iload_n hO dX6_isImage_9 0 rfl rfl ?_
  refine b_icmp_ne hO dX6_isImage_10 (tgt := 24) (by decide) ?_ ?_
  · refine b_iconst hO dX6_isImage_24 ic_i_0 ?_
    exact b_zretc hO (Or.inl rfl) dX6_isImage_25
  · refine b_aload_n hO dX6_isImage_13 2 rfl rfl ?_
    refine b_iconst hO dX6_isImage_14 ic_i_0 ?_
    refine b_callVI hO mdX7_pairAt mvX7_pairAt w1221 (ci := 7) rfl rfl (by decide) kLX_5 (As := [.int _]) (st := []) (ctX7_pairAt n0 hO.2.2.2.2.2.2.1 _ _) (Nat.le_of_ble_eq_true rfl) rfl rfl (Nat.le_of_ble_eq_true rfl) dX6_isImage_15 (fun z15 => ?_)
    refine b_sipush hO dX6_isImage_18 ic_s_9999 ?_
    refine b_icmp_le hO dX6_isImage_21 (tgt := 26) (by decide) ?_ ?_
    · refine b_iconst hO dX6_isImage_26 ic_i_0 ?_
      refine b_istore_n hO dX6_isImage_27 rfl (by decide) (lv' := [(3, .int _), (2, .int _), (0, .ref _), (1, .ref _)]) rfl ?_
      refine b_sub [2, 3, 1, 0] rfl ?_
      exact tfX6_isImage_28 n0 hO _ _ _
    · refine b_iconst hO dX6_isImage_24 ic_i_0 ?_
      exact b_zretc hO (Or.inl rfl) dX6_isImage_25
theorem ctX6_isImage (n0 : Nat) (hI : Inj LX ad) (M : Mem) : CT l LX D cy ad yX6_isImage cX6_isImage 6 (some .boolean) 3 (QI LX D cy ad) [.ref (ad 10), .ref (ad 5)] M (fX6_isImage n0 M) :=
  CT.mk LXok hI (by decide) (Nat.le_of_ble_eq_true rfl) (fun hO => tfX6_isImage n0 hO M)
/-! X6_readImage -/
def fX6_readImage_54 (n0 : Nat) (k16 : Int32 → Mem → Option (Mem)) (x2 : Int32) (u1 : Int32) (u2 : Int32) (M : Mem) : Option (Mem) :=
  if oob u1 5 then none else
  bnd (sA M 11 (Int32.toNatClampNeg u1) u2) fun M54 =>
  (fX7_pairAt n0 ((3 : Int32) + ((3 : Int32) * x2)) M54).bind fun z66 =>
  if oob x2 5 then none else
  bnd (sA z66.2 12 (Int32.toNatClampNeg x2) z66.1) fun M69 =>
  k16 (x2 + (1 : Int32)) M69
def bX6_readImage_78 (n0 : Nat) (k78 : Int32 → Mem → Option (Mem)) (x2 : Int32) (M : Mem) : Option (Mem) :=
  if (gI M (128 * (gR M 1280) + 12)) ≤ x2 then
    some M
  else
    (fX7_at n0 (((2 : Int32) + ((3 : Int32) * (gI M (128 * (gR M 1280) + 5)))) + x2) M).bind fun z108 =>
    if oob x2 6 then none else
    bnd (sA z108.2 13 (Int32.toNatClampNeg x2) z108.1) fun M111 =>
    k78 (x2 + (1 : Int32)) M111
def fX6_readImage_78 (n0 : Nat) : Int32 → Mem → Option (Mem) := loopN (bX6_readImage_78 n0) (fun _ _ => none) n0
def bX6_readImage_16 (n0 : Nat) (k16 : Int32 → Mem → Option (Mem)) (x2 : Int32) (M : Mem) : Option (Mem) :=
  if (gI M (128 * (gR M 1280) + 5)) ≤ x2 then
    fX6_readImage_78 n0 (0 : Int32) M
  else
    (fX7_at n0 ((2 : Int32) + ((3 : Int32) * x2)) M).bind fun z33 =>
    if z33.1 = (255 : Int32) then
      fX6_readImage_54 n0 k16 x2 x2 (-1 : Int32) z33.2
    else
      fX6_readImage_54 n0 k16 x2 x2 z33.1 z33.2
def fX6_readImage_16 (n0 : Nat) : Int32 → Mem → Option (Mem) := loopN (bX6_readImage_16 n0) (fun _ _ => none) n0
def fX6_readImage (n0 : Nat) (M : Mem) : Option (Mem) :=
  (fX7_pairAt n0 (0 : Int32) M).bind fun z3 =>
  bnd (sI z3.2 1281 z3.1) fun M6 =>
  bnd (sI M6 1285 (0 : Int32)) fun M11 =>
  fX6_readImage_16 n0 (0 : Int32) M11
theorem tfX6_readImage_54 (n0 : Nat) (hO : OKc p (rmL 3) s m args meth c LX D cy ad cX6_readImage RX6 4 3 none) (k16 : Int32 → Mem → Option (Mem)) (hk16 : ∀ (x2 : Int32) (M : Mem), BL p l e (rmL 3) s m args below meth c LX D cy ad 4 (QV LX D cy ad) 16 [(0, .ref (ad 10)), (1, .ref (ad 5)), (2, .int x2)] [] M (k16 x2 M)) (x2 : Int32) (u1 : Int32) (u2 : Int32) (M : Mem) : BL p l e (rmL 3) s m args below meth c LX D cy ad 4 (QV LX D cy ad) 54 [(0, .ref (ad 10)), (1, .ref (ad 5)), (2, .int x2)] [.int u2, .int u1, .ref (ad 11)] M (fX6_readImage_54 n0 k16 x2 u1 u2 M) := by
  unfold fX6_readImage_54
  refine b_iast hO kLX_11 (n := 5) rfl dX6_readImage_54 ?_
  refine b_bnd (fun M54 => ?_)
  refine b_aload_n hO dX6_readImage_55 0 rfl rfl ?_
  refine b_get hO flX6_19 kLX_10 (v := .ref (ad 12)) rfl dX6_readImage_56 ?_
  refine b_iload_n hO dX6_readImage_59 2 rfl rfl ?_
  refine b_aload_n hO dX6_readImage_60 1 rfl rfl ?_
  refine b_iconst hO dX6_readImage_61 ic_i_3 ?_
  refine b_iconst hO dX6_readImage_62 ic_i_3 ?_
  refine b_iload_n hO dX6_readImage_63 2 rfl rfl ?_
  refine b_imul hO dX6_readImage_64 ?_
  refine b_iadd hO dX6_readImage_65 ?_
  refine b_callVI hO mdX7_pairAt mvX7_pairAt w1221 (ci := 7) rfl rfl (by decide) kLX_5 (As := [.int _]) (st := [.int _, .ref _]) (ctX7_pairAt n0 hO.2.2.2.2.2.2.1 _ _) (Nat.le_of_ble_eq_true rfl) rfl rfl (Nat.le_of_ble_eq_true rfl) dX6_readImage_66 (fun z66 => ?_)
  refine b_iast hO kLX_12 (n := 5) rfl dX6_readImage_69 ?_
  refine b_bnd (fun M69 => ?_)
  refine b_iinc hO dX6_readImage_70 2 rfl ic_i_1 (by decide) (lv' := [(2, .int _), (0, .ref _), (1, .ref _)]) rfl ?_
  refine b_goto hO dX6_readImage_73 (tgt := 16) (by decide) ?_
  refine b_sub [1, 2, 0] rfl ?_
  exact hk16 _ _
theorem tbX6_readImage_78 (n0 : Nat) (hO : OKc p (rmL 3) s m args meth c LX D cy ad cX6_readImage RX6 4 3 none) (k78 : Int32 → Mem → Option (Mem)) (hk78 : ∀ (x2 : Int32) (M : Mem), BL p l e (rmL 3) s m args below meth c LX D cy ad 4 (QV LX D cy ad) 78 [(0, .ref (ad 10)), (1, .ref (ad 5)), (2, .int x2)] [] M (k78 x2 M)) (x2 : Int32) (M : Mem) : BL p l e (rmL 3) s m args below meth c LX D cy ad 4 (QV LX D cy ad) 78 [(0, .ref (ad 10)), (1, .ref (ad 5)), (2, .int x2)] [] M (bX6_readImage_78 n0 k78 x2 M) := by
  unfold bX6_readImage_78
  refine b_iload_n hO dX6_readImage_78 2 rfl rfl ?_
  refine b_aload_n hO dX6_readImage_79 0 rfl rfl ?_
  refine b_getR hO flX6_34 kLX_10 (id := 1280) rfl rfl (rk := 9) rfl (by decide) dX6_readImage_80 (fun hg1 => ?_)
  refine b_get hO flX6_50 hg1 (v := .int (gI _ (128 * (gR M 1280) + 12))) rfl dX6_readImage_83 ?_
  refine b_icmp_ge hO dX6_readImage_86 (tgt := 118) (by decide) ?_ ?_
  · exact b_vret hO dX6_readImage_118
  · refine b_aload_n hO dX6_readImage_89 0 rfl rfl ?_
    refine b_get hO flX6_22 kLX_10 (v := .ref (ad 13)) rfl dX6_readImage_90 ?_
    refine b_iload_n hO dX6_readImage_93 2 rfl rfl ?_
    refine b_aload_n hO dX6_readImage_94 1 rfl rfl ?_
    refine b_iconst hO dX6_readImage_95 ic_i_2 ?_
    refine b_iconst hO dX6_readImage_96 ic_i_3 ?_
    refine b_aload_n hO dX6_readImage_97 0 rfl rfl ?_
    refine b_getR hO flX6_34 kLX_10 (id := 1280) rfl rfl (rk := 9) rfl (by decide) dX6_readImage_98 (fun hg2 => ?_)
    refine b_get hO flX6_38 hg2 (v := .int (gI _ (128 * (gR M 1280) + 5))) rfl dX6_readImage_101 ?_
    refine b_imul hO dX6_readImage_104 ?_
    refine b_iadd hO dX6_readImage_105 ?_
    refine b_iload_n hO dX6_readImage_106 2 rfl rfl ?_
    refine b_iadd hO dX6_readImage_107 ?_
    refine b_callVI hO mdX7_at mvX7_at w1226 (ci := 7) rfl rfl (by decide) kLX_5 (As := [.int _]) (st := [.int _, .ref _]) (ctX7_at n0 hO.2.2.2.2.2.2.1 _ _) (Nat.le_of_ble_eq_true rfl) rfl rfl (Nat.le_of_ble_eq_true rfl) dX6_readImage_108 (fun z108 => ?_)
    refine b_iast hO kLX_13 (n := 6) rfl dX6_readImage_111 ?_
    refine b_bnd (fun M111 => ?_)
    refine b_iinc hO dX6_readImage_112 2 rfl ic_i_1 (by decide) (lv' := [(2, .int _), (0, .ref _), (1, .ref _)]) rfl ?_
    refine b_goto hO dX6_readImage_115 (tgt := 78) (by decide) ?_
    refine b_sub [1, 2, 0] rfl ?_
    exact hk78 _ _
theorem lX6_readImage_78 (n0 : Nat) (hO : OKc p (rmL 3) s m args meth c LX D cy ad cX6_readImage RX6 4 3 none) : ∀ (w : Nat) (x2 : Int32) (M : Mem), BL p l e (rmL 3) s m args below meth c LX D cy ad 4 (QV LX D cy ad) 78 [(0, .ref (ad 10)), (1, .ref (ad 5)), (2, .int x2)] [] M (loopN (bX6_readImage_78 n0) (fun _ _ => none) w x2 M) := by
  intro w
  induction w with
  | zero =>
    intros
    exact b_none
  | succ w ih =>
    intro x2 M
    exact tbX6_readImage_78 n0 hO _ ih x2 M
theorem tfX6_readImage_78 (n0 : Nat) (hO : OKc p (rmL 3) s m args meth c LX D cy ad cX6_readImage RX6 4 3 none) (x2 : Int32) (M : Mem) : BL p l e (rmL 3) s m args below meth c LX D cy ad 4 (QV LX D cy ad) 78 [(0, .ref (ad 10)), (1, .ref (ad 5)), (2, .int x2)] [] M (fX6_readImage_78 n0 x2 M) := lX6_readImage_78 n0 hO n0 x2 M
theorem tbX6_readImage_16 (n0 : Nat) (hO : OKc p (rmL 3) s m args meth c LX D cy ad cX6_readImage RX6 4 3 none) (k16 : Int32 → Mem → Option (Mem)) (hk16 : ∀ (x2 : Int32) (M : Mem), BL p l e (rmL 3) s m args below meth c LX D cy ad 4 (QV LX D cy ad) 16 [(0, .ref (ad 10)), (1, .ref (ad 5)), (2, .int x2)] [] M (k16 x2 M)) (x2 : Int32) (M : Mem) : BL p l e (rmL 3) s m args below meth c LX D cy ad 4 (QV LX D cy ad) 16 [(0, .ref (ad 10)), (1, .ref (ad 5)), (2, .int x2)] [] M (bX6_readImage_16 n0 k16 x2 M) := by
  unfold bX6_readImage_16
  refine b_iload_n hO dX6_readImage_16 2 rfl rfl ?_
  refine b_aload_n hO dX6_readImage_17 0 rfl rfl ?_
  refine b_getR hO flX6_34 kLX_10 (id := 1280) rfl rfl (rk := 9) rfl (by decide) dX6_readImage_18 (fun hg1 => ?_)
  refine b_get hO flX6_38 hg1 (v := .int (gI _ (128 * (gR M 1280) + 5))) rfl dX6_readImage_21 ?_
  refine b_icmp_ge hO dX6_readImage_24 (tgt := 76) (by decide) ?_ ?_
  · refine b_iconst hO dX6_readImage_76 ic_i_0 ?_
    refine b_istore_n hO dX6_readImage_77 rfl (by decide) (lv' := [(2, .int _), (0, .ref _), (1, .ref _)]) rfl ?_
    refine b_sub [1, 2, 0] rfl ?_
    exact tfX6_readImage_78 n0 hO _ _
  · refine b_aload_n hO dX6_readImage_27 1 rfl rfl ?_
    refine b_iconst hO dX6_readImage_28 ic_i_2 ?_
    refine b_iconst hO dX6_readImage_29 ic_i_3 ?_
    refine b_iload_n hO dX6_readImage_30 2 rfl rfl ?_
    refine b_imul hO dX6_readImage_31 ?_
    refine b_iadd hO dX6_readImage_32 ?_
    refine b_callVI hO mdX7_at mvX7_at w1226 (ci := 7) rfl rfl (by decide) kLX_5 (As := [.int _]) (st := []) (ctX7_at n0 hO.2.2.2.2.2.2.1 _ _) (Nat.le_of_ble_eq_true rfl) rfl rfl (Nat.le_of_ble_eq_true rfl) dX6_readImage_33 (fun z33 => ?_)
    refine b_istore_n hO dX6_readImage_36 rfl (by decide) (lv' := [(3, .int _), (0, .ref _), (1, .ref _), (2, .int _)]) rfl ?_
    refine b_aload_n hO dX6_readImage_37 1 rfl rfl ?_
    refine b_get hO flX6_15 kLX_10 (v := .ref (ad 11)) rfl dX6_readImage_38 ?_
    refine b_iload_n hO dX6_readImage_41 3 rfl rfl ?_
    refine b_iload_n hO dX6_readImage_42 0 rfl rfl ?_
    refine b_sipush hO dX6_readImage_43 ic_s_255 ?_
    refine b_icmp_ne hO dX6_readImage_46 (tgt := 53) (by decide) ?_ ?_
    · refine b_iload_n hO dX6_readImage_53 0 rfl rfl ?_
      refine b_sub [1, 2, 3] rfl ?_
      exact tfX6_readImage_54 n0 hO k16 hk16 _ _ _ _
    · refine b_iconst hO dX6_readImage_49 ic_i_m1 ?_
      refine b_goto hO dX6_readImage_50 (tgt := 54) (by decide) ?_
      refine b_sub [1, 2, 3] rfl ?_
      exact tfX6_readImage_54 n0 hO k16 hk16 _ _ _ _
theorem lX6_readImage_16 (n0 : Nat) (hO : OKc p (rmL 3) s m args meth c LX D cy ad cX6_readImage RX6 4 3 none) : ∀ (w : Nat) (x2 : Int32) (M : Mem), BL p l e (rmL 3) s m args below meth c LX D cy ad 4 (QV LX D cy ad) 16 [(0, .ref (ad 10)), (1, .ref (ad 5)), (2, .int x2)] [] M (loopN (bX6_readImage_16 n0) (fun _ _ => none) w x2 M) := by
  intro w
  induction w with
  | zero =>
    intros
    exact b_none
  | succ w ih =>
    intro x2 M
    exact tbX6_readImage_16 n0 hO _ ih x2 M
theorem tfX6_readImage_16 (n0 : Nat) (hO : OKc p (rmL 3) s m args meth c LX D cy ad cX6_readImage RX6 4 3 none) (x2 : Int32) (M : Mem) : BL p l e (rmL 3) s m args below meth c LX D cy ad 4 (QV LX D cy ad) 16 [(0, .ref (ad 10)), (1, .ref (ad 5)), (2, .int x2)] [] M (fX6_readImage_16 n0 x2 M) := lX6_readImage_16 n0 hO n0 x2 M
theorem tfX6_readImage (n0 : Nat) (hO : OKc p (rmL 3) s m args meth c LX D cy ad cX6_readImage RX6 4 3 none) (M : Mem) : BL p l e (rmL 3) s m args below meth c LX D cy ad 4 (QV LX D cy ad) 0 [(0, .ref (ad 10)), (1, .ref (ad 5))] [] M (fX6_readImage n0 M) := by
  unfold fX6_readImage
  refine b_aload_n hO dX6_readImage_0 0 rfl rfl ?_
  refine b_aload_n hO dX6_readImage_1 1 rfl rfl ?_
  refine b_iconst hO dX6_readImage_2 ic_i_0 ?_
  refine b_callVI hO mdX7_pairAt mvX7_pairAt w1221 (ci := 7) rfl rfl (by decide) kLX_5 (As := [.int _]) (st := [.ref _]) (ctX7_pairAt n0 hO.2.2.2.2.2.2.1 _ _) (Nat.le_of_ble_eq_true rfl) rfl rfl (Nat.le_of_ble_eq_true rfl) dX6_readImage_3 (fun z3 => ?_)
  refine b_putI hO flX6_9 kLX_10 rfl rfl rfl (id := 1281) rfl dX6_readImage_6 ?_
  refine b_bnd (fun M6 => ?_)
  refine b_aload_n hO dX6_readImage_9 0 rfl rfl ?_
  refine b_iconst hO dX6_readImage_10 ic_i_0 ?_
  refine b_putI hO flX6_25 kLX_10 rfl rfl rfl (id := 1285) rfl dX6_readImage_11 ?_
  refine b_bnd (fun M11 => ?_)
  refine b_iconst hO dX6_readImage_14 ic_i_0 ?_
  refine b_istore_n hO dX6_readImage_15 rfl (by decide) (lv' := [(2, .int _), (0, .ref _), (1, .ref _)]) rfl ?_
  refine b_sub [1, 2, 0] rfl ?_
  exact tfX6_readImage_16 n0 hO _ _
theorem ctX6_readImage (n0 : Nat) (hI : Inj LX ad) (M : Mem) : CT l LX D cy ad yX6_readImage cX6_readImage 4 none 3 (QV LX D cy ad) [.ref (ad 10), .ref (ad 5)] M (fX6_readImage n0 M) :=
  CT.mk LXok hI (by decide) (Nat.le_of_ble_eq_true rfl) (fun hO => tfX6_readImage n0 hO M)
end
end
section
section
variable {p : Program} {l : Launch} {e : Env} {s : State} {m : MethodId} {args : Array Value} {below : List Frame} {meth : Method} {c : Code} {D : va_G} {cy : Nat → ClassId} {ad : Nat → Nat} {dd : Nat}

/-! X2_remember -/
def fX2_remember (n0 : Nat) (M : Mem) : Option (Mem) :=
  if oob (gI M 2049) 20 then none else
  (fX6_save n0 (63 + Int32.toNatClampNeg (gI M 2049)) M).bind fun z10 =>
  if (20 : Int32) = 0 then none else
  bnd (sI z10 2049 (rem32 ((gI z10 2049) + (1 : Int32)) (20 : Int32))) fun M23 =>
  some (sI M23 2050 (imin (20 : Int32) ((gI M23 2050) + (1 : Int32))))
theorem tfX2_remember (n0 : Nat) (hO : OKc p (rmL 2) s m args meth c LX D cy ad cX2_remember RX2 2 2 none) (M : Mem) : BL p l e (rmL 2) s m args below meth c LX D cy ad 2 (QV LX D cy ad) 0 [(0, .ref (ad 16)), (1, .ref (ad 10))] [] M (fX2_remember n0 M) := by
  unfold fX2_remember
  refine b_aload_n hO dX2_remember_0 1 rfl rfl ?_
  refine b_aload_n hO dX2_remember_1 0 rfl rfl ?_
  refine b_get hO flX2_13 kLX_16 (v := .ref (ad 17)) rfl dX2_remember_2 ?_
  refine b_aload_n hO dX2_remember_5 0 rfl rfl ?_
  refine b_get hO flX2_18 kLX_16 (v := .int (gI _ 2049)) rfl dX2_remember_6 ?_
  refine b_aald hO kLX_17 (n := 20) rfl (b := 63) rfl dX2_remember_9 kg_17 (fun hg1 => ?_)
  refine b_callVV hO mdX6_save mvX6_save w1132 (ci := 6) rfl rfl (by decide) kLX_10 (As := [.ref _]) (st := []) (ctX6_save n0 _ hg1 hO.2.2.2.2.2.2.1 _) (Nat.le_of_ble_eq_true rfl) rfl rfl (Nat.le_of_ble_eq_true rfl) dX2_remember_10 (fun z10 => ?_)
  refine b_aload_n hO dX2_remember_13 0 rfl rfl ?_
  refine b_aload_n hO dX2_remember_14 0 rfl rfl ?_
  refine b_get hO flX2_18 kLX_16 (v := .int (gI _ 2049)) rfl dX2_remember_15 ?_
  refine b_iconst hO dX2_remember_18 ic_i_1 ?_
  refine b_iadd hO dX2_remember_19 ?_
  refine b_bipush hO dX2_remember_20 ic_b_20 ?_
  refine b_irem hO dX2_remember_22 ?_
  refine b_putI hO flX2_18 kLX_16 rfl rfl rfl (id := 2049) rfl dX2_remember_23 ?_
  refine b_bnd (fun M23 => ?_)
  refine b_aload_n hO dX2_remember_26 0 rfl rfl ?_
  refine b_bipush hO dX2_remember_27 ic_b_20 ?_
  refine b_aload_n hO dX2_remember_29 0 rfl rfl ?_
  refine b_get hO flX2_22 kLX_16 (v := .int (gI _ 2050)) rfl dX2_remember_30 ?_
  refine b_iconst hO dX2_remember_33 ic_i_1 ?_
  refine b_iadd hO dX2_remember_34 ?_
  refine b_mmin hO w1139 w591 w136 wm592 (by first | decide | omega) (Nat.le_of_ble_eq_true rfl) dX2_remember_35 ?_
  refine b_putI hO flX2_22 kLX_16 rfl rfl rfl (id := 2050) rfl dX2_remember_38 ?_
  exact b_vret hO dX2_remember_41
theorem ctX2_remember (n0 : Nat) (hI : Inj LX ad) (M : Mem) : CT l LX D cy ad yX2_remember cX2_remember 2 none 2 (QV LX D cy ad) [.ref (ad 16), .ref (ad 10)] M (fX2_remember n0 M) :=
  CT.mk LXok hI (by decide) (Nat.le_of_ble_eq_true rfl) (fun hO => tfX2_remember n0 hO M)
/-! X2_bringBack -/
def fX2_bringBack (n0 : Nat) (M : Mem) : Option (Int32 × Mem) :=
  if 0 < (gI M 2050) then
    if (20 : Int32) = 0 then none else
    bnd (sI M 2049 (rem32 (((gI M 2049) + (20 : Int32)) - (1 : Int32)) (20 : Int32))) fun M22 =>
    bnd (sI M22 2050 ((gI M22 2050) - (1 : Int32))) fun M32 =>
    if oob (gI M32 2049) 20 then none else
    (fX6_bringBack n0 (63 + Int32.toNatClampNeg (gI M32 2049)) M32).bind fun z45 =>
    some ((1 : Int32), z45)
  else
    some ((0 : Int32), M)
theorem tfX2_bringBack (n0 : Nat) (hO : OKc p (rmL 2) s m args meth c LX D cy ad cX2_bringBack RX2 2 2 (some .boolean)) (M : Mem) : BL p l e (rmL 2) s m args below meth c LX D cy ad 2 (QI LX D cy ad) 0 [(0, .ref (ad 16)), (1, .ref (ad 10))] [] M (fX2_bringBack n0 M) := by
  unfold fX2_bringBack
  refine b_aload_n hO dX2_bringBack_0 0 rfl rfl ?_
  refine b_get hO flX2_22 kLX_16 (v := .int (gI _ 2050)) rfl dX2_bringBack_1 ?_
  refine b_if_gt hO dX2_bringBack_4 (tgt := 9) (by decide) ?_ ?_
  · refine b_aload_n hO dX2_bringBack_9 0 rfl rfl ?_
    refine b_aload_n hO dX2_bringBack_10 0 rfl rfl ?_
    refine b_get hO flX2_18 kLX_16 (v := .int (gI _ 2049)) rfl dX2_bringBack_11 ?_
    refine b_bipush hO dX2_bringBack_14 ic_b_20 ?_
    refine b_iadd hO dX2_bringBack_16 ?_
    refine b_iconst hO dX2_bringBack_17 ic_i_1 ?_
    refine b_isub hO dX2_bringBack_18 ?_
    refine b_bipush hO dX2_bringBack_19 ic_b_20 ?_
    refine b_irem hO dX2_bringBack_21 ?_
    refine b_putI hO flX2_18 kLX_16 rfl rfl rfl (id := 2049) rfl dX2_bringBack_22 ?_
    refine b_bnd (fun M22 => ?_)
    refine b_aload_n hO dX2_bringBack_25 0 rfl rfl ?_
    refine b_dup hO dX2_bringBack_26 rfl ?_
    refine b_get hO flX2_22 kLX_16 (v := .int (gI _ 2050)) rfl dX2_bringBack_27 ?_
    refine b_iconst hO dX2_bringBack_30 ic_i_1 ?_
    refine b_isub hO dX2_bringBack_31 ?_
    refine b_putI hO flX2_22 kLX_16 rfl rfl rfl (id := 2050) rfl dX2_bringBack_32 ?_
    refine b_bnd (fun M32 => ?_)
    refine b_aload_n hO dX2_bringBack_35 1 rfl rfl ?_
    refine b_aload_n hO dX2_bringBack_36 0 rfl rfl ?_
    refine b_get hO flX2_13 kLX_16 (v := .ref (ad 17)) rfl dX2_bringBack_37 ?_
    refine b_aload_n hO dX2_bringBack_40 0 rfl rfl ?_
    refine b_get hO flX2_18 kLX_16 (v := .int (gI _ 2049)) rfl dX2_bringBack_41 ?_
    refine b_aald hO kLX_17 (n := 20) rfl (b := 63) rfl dX2_bringBack_44 kg_17 (fun hg1 => ?_)
    refine b_callVV hO mdX6_bringBack mvX6_bringBack w1182 (ci := 6) rfl rfl (by decide) kLX_10 (As := [.ref _]) (st := []) (ctX6_bringBack n0 _ hg1 hO.2.2.2.2.2.2.1 _) (Nat.le_of_ble_eq_true rfl) rfl rfl (Nat.le_of_ble_eq_true rfl) dX2_bringBack_45 (fun z45 => ?_)
    refine b_iconst hO dX2_bringBack_48 ic_i_1 ?_
    exact b_zretc hO (Or.inr rfl) dX2_bringBack_49
  · refine b_iconst hO dX2_bringBack_7 ic_i_0 ?_
    exact b_zretc hO (Or.inl rfl) dX2_bringBack_8
theorem ctX2_bringBack (n0 : Nat) (hI : Inj LX ad) (M : Mem) : CT l LX D cy ad yX2_bringBack cX2_bringBack 2 (some .boolean) 2 (QI LX D cy ad) [.ref (ad 16), .ref (ad 10)] M (fX2_bringBack n0 M) :=
  CT.mk LXok hI (by decide) (Nat.le_of_ble_eq_true rfl) (fun hO => tfX2_bringBack n0 hO M)
end
end
