section
variable {p : Program} {l : Launch} {e : Env} {s : State} {m : MethodId} {args : Array Value} {below : List Frame} {meth : Method} {c : Code} {D : va_G} {cy : Nat → ClassId} {ad : Nat → Nat} {dd : Nat}

/-! X11_countPlanned -/
def fX11_countPlanned_28 (n0 : Nat) (k4 : Int32 → Int32 → Mem → Option (Int32 × Mem)) (x1 : Int32) (x2 : Int32) (M : Mem) : Option (Int32 × Mem) :=
  k4 x1 (x2 + (1 : Int32)) M
def bX11_countPlanned_4 (n0 : Nat) (k4 : Int32 → Int32 → Mem → Option (Int32 × Mem)) (x1 : Int32) (x2 : Int32) (M : Mem) : Option (Int32 × Mem) :=
  if (gI M (128 * (gR M 1) + 5)) ≤ x2 then
    some (x1, M)
  else
    if oob x2 5 then none else
    if (gA M 28 (Int32.toNatClampNeg x2)) = (-1 : Int32) then
      fX11_countPlanned_28 n0 k4 x1 x2 M
    else
      fX11_countPlanned_28 n0 k4 (x1 + (1 : Int32)) x2 M
def fX11_countPlanned_4 (n0 : Nat) : Int32 → Int32 → Mem → Option (Int32 × Mem) := loopN (bX11_countPlanned_4 n0) (fun _ _ _ => none) n0
def fX11_countPlanned (n0 : Nat) (M : Mem) : Option (Int32 × Mem) :=
  fX11_countPlanned_4 n0 (0 : Int32) (0 : Int32) M
theorem tfX11_countPlanned_28 (n0 : Nat) (hO : OKc p (rmL 1) s m args meth c LX D cy ad cX11_countPlanned RX11 3 1 (some .int)) (k4 : Int32 → Int32 → Mem → Option (Int32 × Mem)) (hk4 : ∀ (x1 : Int32) (x2 : Int32) (M : Mem), BL p l e (rmL 1) s m args below meth c LX D cy ad 3 (QI LX D cy ad) 4 [(0, .ref (ad 0)), (1, .int x1), (2, .int x2)] [] M (k4 x1 x2 M)) (x1 : Int32) (x2 : Int32) (M : Mem) : BL p l e (rmL 1) s m args below meth c LX D cy ad 3 (QI LX D cy ad) 28 [(0, .ref (ad 0)), (1, .int x1), (2, .int x2)] [] M (fX11_countPlanned_28 n0 k4 x1 x2 M) := by
  unfold fX11_countPlanned_28
  refine b_iinc hO dX11_countPlanned_28 2 rfl ic_i_1 (by decide) (lv' := [(2, .int _), (0, .ref _), (1, .int _)]) rfl ?_
  refine b_goto hO dX11_countPlanned_31 (tgt := 4) (by decide) ?_
  refine b_sub [1, 2, 0] rfl ?_
  exact hk4 _ _ _
theorem tbX11_countPlanned_4 (n0 : Nat) (hO : OKc p (rmL 1) s m args meth c LX D cy ad cX11_countPlanned RX11 3 1 (some .int)) (k4 : Int32 → Int32 → Mem → Option (Int32 × Mem)) (hk4 : ∀ (x1 : Int32) (x2 : Int32) (M : Mem), BL p l e (rmL 1) s m args below meth c LX D cy ad 3 (QI LX D cy ad) 4 [(0, .ref (ad 0)), (1, .int x1), (2, .int x2)] [] M (k4 x1 x2 M)) (x1 : Int32) (x2 : Int32) (M : Mem) : BL p l e (rmL 1) s m args below meth c LX D cy ad 3 (QI LX D cy ad) 4 [(0, .ref (ad 0)), (1, .int x1), (2, .int x2)] [] M (bX11_countPlanned_4 n0 k4 x1 x2 M) := by
  unfold bX11_countPlanned_4
  refine b_iload_n hO dX11_countPlanned_4 2 rfl rfl ?_
  refine b_aload_n hO dX11_countPlanned_5 0 rfl rfl ?_
  refine b_getR hO flX11_19 kLX_0 (id := 1) rfl rfl (rk := 9) rfl (by decide) dX11_countPlanned_6 (fun hg1 => ?_)
  refine b_get hO flX11_139 hg1 (v := .int (gI _ (128 * (gR M 1) + 5))) rfl dX11_countPlanned_9 ?_
  refine b_icmp_ge hO dX11_countPlanned_12 (tgt := 34) (by decide) ?_ ?_
  · refine b_iload_n hO dX11_countPlanned_34 1 rfl rfl ?_
    exact b_iret hO dX11_countPlanned_35
  · refine b_aload_n hO dX11_countPlanned_15 0 rfl rfl ?_
    refine b_get hO flX11_79 kLX_0 (v := .ref (ad 28)) rfl dX11_countPlanned_16 ?_
    refine b_iload_n hO dX11_countPlanned_19 2 rfl rfl ?_
    refine b_iald hO kLX_28 (n := 5) rfl dX11_countPlanned_20 ?_
    refine b_iconst hO dX11_countPlanned_21 ic_i_m1 ?_
    refine b_icmp_eq hO dX11_countPlanned_22 (tgt := 28) (by decide) ?_ ?_
    · exact tfX11_countPlanned_28 n0 hO k4 hk4 _ _ _
    · refine b_iinc hO dX11_countPlanned_25 1 rfl ic_i_1 (by decide) (lv' := [(1, .int _), (0, .ref _), (2, .int _)]) rfl ?_
      refine b_sub [1, 0, 2] rfl ?_
      exact tfX11_countPlanned_28 n0 hO k4 hk4 _ _ _
theorem lX11_countPlanned_4 (n0 : Nat) (hO : OKc p (rmL 1) s m args meth c LX D cy ad cX11_countPlanned RX11 3 1 (some .int)) : ∀ (w : Nat) (x1 : Int32) (x2 : Int32) (M : Mem), BL p l e (rmL 1) s m args below meth c LX D cy ad 3 (QI LX D cy ad) 4 [(0, .ref (ad 0)), (1, .int x1), (2, .int x2)] [] M (loopN (bX11_countPlanned_4 n0) (fun _ _ _ => none) w x1 x2 M) := by
  intro w
  induction w with
  | zero =>
    intros
    exact b_none
  | succ w ih =>
    intro x1 x2 M
    exact tbX11_countPlanned_4 n0 hO _ ih x1 x2 M
theorem tfX11_countPlanned_4 (n0 : Nat) (hO : OKc p (rmL 1) s m args meth c LX D cy ad cX11_countPlanned RX11 3 1 (some .int)) (x1 : Int32) (x2 : Int32) (M : Mem) : BL p l e (rmL 1) s m args below meth c LX D cy ad 3 (QI LX D cy ad) 4 [(0, .ref (ad 0)), (1, .int x1), (2, .int x2)] [] M (fX11_countPlanned_4 n0 x1 x2 M) := lX11_countPlanned_4 n0 hO n0 x1 x2 M
theorem tfX11_countPlanned (n0 : Nat) (hO : OKc p (rmL 1) s m args meth c LX D cy ad cX11_countPlanned RX11 3 1 (some .int)) (M : Mem) : BL p l e (rmL 1) s m args below meth c LX D cy ad 3 (QI LX D cy ad) 0 [(0, .ref (ad 0))] [] M (fX11_countPlanned n0 M) := by
  unfold fX11_countPlanned
  refine b_iconst hO dX11_countPlanned_0 ic_i_0 ?_
  refine b_istore_n hO dX11_countPlanned_1 rfl (by decide) (lv' := [(1, .int _), (0, .ref _)]) rfl ?_
  refine b_iconst hO dX11_countPlanned_2 ic_i_0 ?_
  refine b_istore_n hO dX11_countPlanned_3 rfl (by decide) (lv' := [(2, .int _), (1, .int _), (0, .ref _)]) rfl ?_
  refine b_sub [2, 1, 0] rfl ?_
  exact tfX11_countPlanned_4 n0 hO _ _ _
theorem ctX11_countPlanned (n0 : Nat) (hI : Inj LX ad) (M : Mem) : CT l LX D cy ad yX11_countPlanned cX11_countPlanned 3 (some .int) 1 (QI LX D cy ad) [.ref (ad 0)] M (fX11_countPlanned n0 M) :=
  CT.mk LXok hI (by decide) (Nat.le_of_ble_eq_true rfl) (fun hO => tfX11_countPlanned n0 hO M)
/-! X11_planAnywhere -/
def bX11_planAnywhere_10 (n0 : Nat) (k10 : Int32 → Int32 → Int32 → Mem → Option (Int32 × Mem)) (x1 : Int32) (x2 : Int32) (x3 : Int32) (M : Mem) : Option (Int32 × Mem) :=
  if x3 < 0 then
    some ((0 : Int32), M)
  else
    (fX11_findGiving n0 x3 x1 x2 M).bind fun z23 =>
    if oob x3 5 then none else
    bnd (sA z23.2 28 (Int32.toNatClampNeg x3) z23.1) fun M26 =>
    if oob x3 5 then none else
    if (gA M26 28 (Int32.toNatClampNeg x3)) = (-1 : Int32) then
      k10 x1 x2 (x3 + (-1 : Int32)) M26
    else
      some ((1 : Int32), M26)
def fX11_planAnywhere_10 (n0 : Nat) : Int32 → Int32 → Int32 → Mem → Option (Int32 × Mem) := loopN (bX11_planAnywhere_10 n0) (fun _ _ _ _ => none) n0
def fX11_planAnywhere (n0 : Nat) (x1 : Int32) (x2 : Int32) (M : Mem) : Option (Int32 × Mem) :=
  bnd ((gI M (128 * (gR M 1) + 5)) - (1 : Int32)) fun x3_9 =>
  fX11_planAnywhere_10 n0 x1 x2 x3_9 M
theorem tbX11_planAnywhere_10 (n0 : Nat) (hO : OKc p (rmL 7) s m args meth c LX D cy ad cX11_planAnywhere RX11 4 7 (some .boolean)) (k10 : Int32 → Int32 → Int32 → Mem → Option (Int32 × Mem)) (hk10 : ∀ (x1 : Int32) (x2 : Int32) (x3 : Int32) (M : Mem), BL p l e (rmL 7) s m args below meth c LX D cy ad 4 (QI LX D cy ad) 10 [(0, .ref (ad 0)), (1, .int x1), (2, .int x2), (3, .int x3)] [] M (k10 x1 x2 x3 M)) (x1 : Int32) (x2 : Int32) (x3 : Int32) (M : Mem) : BL p l e (rmL 7) s m args below meth c LX D cy ad 4 (QI LX D cy ad) 10 [(0, .ref (ad 0)), (1, .int x1), (2, .int x2), (3, .int x3)] [] M (bX11_planAnywhere_10 n0 k10 x1 x2 x3 M) := by
  unfold bX11_planAnywhere_10
  refine b_iload_n hO dX11_planAnywhere_10 3 rfl rfl ?_
  refine b_if_lt hO dX11_planAnywhere_11 (tgt := 45) (by decide) ?_ ?_
  · refine b_iconst hO dX11_planAnywhere_45 ic_i_0 ?_
    exact b_zretc hO (Or.inl rfl) dX11_planAnywhere_46
  · refine b_aload_n hO dX11_planAnywhere_14 0 rfl rfl ?_
    refine b_get hO flX11_79 kLX_0 (v := .ref (ad 28)) rfl dX11_planAnywhere_15 ?_
    refine b_iload_n hO dX11_planAnywhere_18 3 rfl rfl ?_
    refine b_aload_n hO dX11_planAnywhere_19 0 rfl rfl ?_
    refine b_iload_n hO dX11_planAnywhere_20 3 rfl rfl ?_
    refine b_iload_n hO dX11_planAnywhere_21 1 rfl rfl ?_
    refine b_iload_n hO dX11_planAnywhere_22 2 rfl rfl ?_
    refine b_callVI hO mdX11_findGiving mvX11_findGiving w1011 (ci := 11) rfl rfl (by decide) kLX_0 (As := [.int _, .int _, .int _]) (st := [.int _, .ref _]) (ctX11_findGiving n0 hO.2.2.2.2.2.2.1 _ _ _ _) (Nat.le_of_ble_eq_true rfl) rfl rfl (Nat.le_of_ble_eq_true rfl) dX11_planAnywhere_23 (fun z23 => ?_)
    refine b_iast hO kLX_28 (n := 5) rfl dX11_planAnywhere_26 ?_
    refine b_bnd (fun M26 => ?_)
    refine b_aload_n hO dX11_planAnywhere_27 0 rfl rfl ?_
    refine b_get hO flX11_79 kLX_0 (v := .ref (ad 28)) rfl dX11_planAnywhere_28 ?_
    refine b_iload_n hO dX11_planAnywhere_31 3 rfl rfl ?_
    refine b_iald hO kLX_28 (n := 5) rfl dX11_planAnywhere_32 ?_
    refine b_iconst hO dX11_planAnywhere_33 ic_i_m1 ?_
    refine b_icmp_eq hO dX11_planAnywhere_34 (tgt := 39) (by decide) ?_ ?_
    · refine b_iinc hO dX11_planAnywhere_39 3 rfl ic_i_m1 (by decide) (lv' := [(3, .int _), (0, .ref _), (1, .int _), (2, .int _)]) rfl ?_
      refine b_goto hO dX11_planAnywhere_42 (tgt := 10) (by decide) ?_
      refine b_sub [1, 2, 3, 0] rfl ?_
      exact hk10 _ _ _ _
    · refine b_iconst hO dX11_planAnywhere_37 ic_i_1 ?_
      exact b_zretc hO (Or.inr rfl) dX11_planAnywhere_38
theorem lX11_planAnywhere_10 (n0 : Nat) (hO : OKc p (rmL 7) s m args meth c LX D cy ad cX11_planAnywhere RX11 4 7 (some .boolean)) : ∀ (w : Nat) (x1 : Int32) (x2 : Int32) (x3 : Int32) (M : Mem), BL p l e (rmL 7) s m args below meth c LX D cy ad 4 (QI LX D cy ad) 10 [(0, .ref (ad 0)), (1, .int x1), (2, .int x2), (3, .int x3)] [] M (loopN (bX11_planAnywhere_10 n0) (fun _ _ _ _ => none) w x1 x2 x3 M) := by
  intro w
  induction w with
  | zero =>
    intros
    exact b_none
  | succ w ih =>
    intro x1 x2 x3 M
    exact tbX11_planAnywhere_10 n0 hO _ ih x1 x2 x3 M
theorem tfX11_planAnywhere_10 (n0 : Nat) (hO : OKc p (rmL 7) s m args meth c LX D cy ad cX11_planAnywhere RX11 4 7 (some .boolean)) (x1 : Int32) (x2 : Int32) (x3 : Int32) (M : Mem) : BL p l e (rmL 7) s m args below meth c LX D cy ad 4 (QI LX D cy ad) 10 [(0, .ref (ad 0)), (1, .int x1), (2, .int x2), (3, .int x3)] [] M (fX11_planAnywhere_10 n0 x1 x2 x3 M) := lX11_planAnywhere_10 n0 hO n0 x1 x2 x3 M
theorem tfX11_planAnywhere (n0 : Nat) (hO : OKc p (rmL 7) s m args meth c LX D cy ad cX11_planAnywhere RX11 4 7 (some .boolean)) (x1 : Int32) (x2 : Int32) (M : Mem) : BL p l e (rmL 7) s m args below meth c LX D cy ad 4 (QI LX D cy ad) 0 [(0, .ref (ad 0)), (1, .int x1), (2, .int x2)] [] M (fX11_planAnywhere n0 x1 x2 M) := by
  unfold fX11_planAnywhere
  refine b_aload_n hO dX11_planAnywhere_0 0 rfl rfl ?_
  refine b_getR hO flX11_19 kLX_0 (id := 1) rfl rfl (rk := 9) rfl (by decide) dX11_planAnywhere_1 (fun hg1 => ?_)
  refine b_get hO flX11_139 hg1 (v := .int (gI _ (128 * (gR M 1) + 5))) rfl dX11_planAnywhere_4 ?_
  refine b_iconst hO dX11_planAnywhere_7 ic_i_1 ?_
  refine b_isub hO dX11_planAnywhere_8 ?_
  refine b_topI (fun x3_9 => ?_)
  refine b_istore_n hO dX11_planAnywhere_9 rfl (by decide) (lv' := [(3, .int _), (0, .ref _), (1, .int _), (2, .int _)]) rfl ?_
  refine b_sub [1, 2, 3, 0] rfl ?_
  exact tfX11_planAnywhere_10 n0 hO _ _ _ _
theorem ctX11_planAnywhere (n0 : Nat) (hI : Inj LX ad) (x1 : Int32) (x2 : Int32) (M : Mem) : CT l LX D cy ad yX11_planAnywhere cX11_planAnywhere 4 (some .boolean) 7 (QI LX D cy ad) [.ref (ad 0), .int x1, .int x2] M (fX11_planAnywhere n0 x1 x2 M) :=
  CT.mk LXok hI (by decide) (Nat.le_of_ble_eq_true rfl) (fun hO => tfX11_planAnywhere n0 hO x1 x2 M)
/-! X11_plan -/
def fX11_plan_94 (n0 : Nat) (x3 : Int32) (u0 : Int32) (M : Mem) : Option (Int32 × Mem) :=
  if u0 = 0 then
    some ((-1 : Int32), M)
  else
    if x3 = (-1 : Int32) then
      (fX11_countPlanned n0 M).bind fun z109 =>
      some (z109.1, z109.2)
    else
      if oob x3 5 then none else
      some ((gA M 28 (Int32.toNatClampNeg x3)), M)
def fX11_plan_89 (n0 : Nat) (x3 : Int32) (M : Mem) : Option (Int32 × Mem) :=
  fX11_plan_94 n0 x3 (1 : Int32) M
def fX11_plan_93 (n0 : Nat) (x3 : Int32) (M : Mem) : Option (Int32 × Mem) :=
  fX11_plan_94 n0 x3 (0 : Int32) M
def fX11_plan_55 (n0 : Nat) (x1 : Int32) (x2 : Int32) (x3 : Int32) (M : Mem) : Option (Int32 × Mem) :=
  (fX11_planNothing n0 x1 x2 M).bind fun z58 =>
  if z58.1 = 0 then
    (fX11_planNeeded n0 x1 x2 z58.2).bind fun z67 =>
    if z67.1 = 0 then
      fX11_plan_93 n0 x3 z67.2
    else
      (fX11_countPlanned n0 z67.2).bind fun z74 =>
      if 0 < z74.1 then
        fX11_plan_89 n0 x3 z74.2
      else
        (fX11_planAnywhere n0 x1 x2 z74.2).bind fun z83 =>
        if z83.1 = 0 then
          fX11_plan_93 n0 x3 z83.2
        else
          fX11_plan_89 n0 x3 z83.2
  else
    fX11_plan_89 n0 x3 z58.2
def fX11_plan (n0 : Nat) (x1 : Int32) (x2 : Int32) (x3 : Int32) (M : Mem) : Option (Int32 × Mem) :=
  if x1 < 0 then
    some ((-1 : Int32), M)
  else
    if ((1 : Int32) <<< ((gI M (128 * (gR M 1) + 12)) &&& 31)) ≤ x1 then
      some ((-1 : Int32), M)
    else
      if x2 < 0 then
        some ((-1 : Int32), M)
      else
        if (20 : Int32) < x2 then
          some ((-1 : Int32), M)
        else
          (fX11_isBeyond n0 x2 M).bind fun z29 =>
          if z29.1 = 0 then
            if x3 = (-1 : Int32) then
              fX11_plan_55 n0 x1 x2 x3 z29.2
            else
              (fX9_isCorner n0 (gR z29.2 1) x3 z29.2).bind fun z47 =>
              if z47.1 = 0 then
                some ((-1 : Int32), z47.2)
              else
                fX11_plan_55 n0 x1 x2 x3 z47.2
          else
            some ((-1 : Int32), z29.2)
theorem tfX11_plan_94 (n0 : Nat) (hO : OKc p (rmL 8) s m args meth c LX D cy ad cX11_plan RX11 5 8 (some .int)) (x3 : Int32) (u0 : Int32) (M : Mem) : BL p l e (rmL 8) s m args below meth c LX D cy ad 5 (QI LX D cy ad) 94 [(0, .ref (ad 0)), (3, .int x3)] [.int u0] M (fX11_plan_94 n0 x3 u0 M) := by
  unfold fX11_plan_94
  refine b_istore hO dX11_plan_94 (by decide) (lv' := [(4, .int _), (0, .ref _), (3, .int _)]) rfl ?_
  refine b_iload hO dX11_plan_96 0 rfl ?_
  refine b_if_ne hO dX11_plan_98 (tgt := 103) (by decide) ?_ ?_
  · refine b_iload_n hO dX11_plan_103 2 rfl rfl ?_
    refine b_iconst hO dX11_plan_104 ic_i_m1 ?_
    refine b_icmp_ne hO dX11_plan_105 (tgt := 115) (by decide) ?_ ?_
    · refine b_aload_n hO dX11_plan_115 1 rfl rfl ?_
      refine b_get hO flX11_79 kLX_0 (v := .ref (ad 28)) rfl dX11_plan_116 ?_
      refine b_iload_n hO dX11_plan_119 2 rfl rfl ?_
      refine b_iald hO kLX_28 (n := 5) rfl dX11_plan_120 ?_
      exact b_iret hO dX11_plan_121
    · refine b_aload_n hO dX11_plan_108 1 rfl rfl ?_
      refine b_callVI hO mdX11_countPlanned mvX11_countPlanned w1015 (ci := 11) rfl rfl (by decide) kLX_0 (As := []) (st := []) (ctX11_countPlanned n0 hO.2.2.2.2.2.2.1 _) (Nat.le_of_ble_eq_true rfl) rfl rfl (Nat.le_of_ble_eq_true rfl) dX11_plan_109 (fun z109 => ?_)
      refine b_goto hO dX11_plan_112 (tgt := 121) (by decide) ?_
      exact b_iret hO dX11_plan_121
  · refine b_iconst hO dX11_plan_101 ic_i_m1 ?_
    exact b_iret hO dX11_plan_102
theorem tfX11_plan_89 (n0 : Nat) (hO : OKc p (rmL 8) s m args meth c LX D cy ad cX11_plan RX11 5 8 (some .int)) (x3 : Int32) (M : Mem) : BL p l e (rmL 8) s m args below meth c LX D cy ad 5 (QI LX D cy ad) 89 [(0, .ref (ad 0)), (3, .int x3)] [] M (fX11_plan_89 n0 x3 M) := by
  unfold fX11_plan_89
  refine b_iconst hO dX11_plan_89 ic_i_1 ?_
  refine b_goto hO dX11_plan_90 (tgt := 94) (by decide) ?_
  exact tfX11_plan_94 n0 hO _ _ _
theorem tfX11_plan_93 (n0 : Nat) (hO : OKc p (rmL 8) s m args meth c LX D cy ad cX11_plan RX11 5 8 (some .int)) (x3 : Int32) (M : Mem) : BL p l e (rmL 8) s m args below meth c LX D cy ad 5 (QI LX D cy ad) 93 [(0, .ref (ad 0)), (3, .int x3)] [] M (fX11_plan_93 n0 x3 M) := by
  unfold fX11_plan_93
  refine b_iconst hO dX11_plan_93 ic_i_0 ?_
  exact tfX11_plan_94 n0 hO _ _ _
theorem tfX11_plan_55 (n0 : Nat) (hO : OKc p (rmL 8) s m args meth c LX D cy ad cX11_plan RX11 5 8 (some .int)) (x1 : Int32) (x2 : Int32) (x3 : Int32) (M : Mem) : BL p l e (rmL 8) s m args below meth c LX D cy ad 5 (QI LX D cy ad) 55 [(0, .ref (ad 0)), (1, .int x1), (2, .int x2), (3, .int x3)] [] M (fX11_plan_55 n0 x1 x2 x3 M) := by
  unfold fX11_plan_55
  refine b_aload_n hO dX11_plan_55 0 rfl rfl ?_
  refine b_iload_n hO dX11_plan_56 1 rfl rfl ?_
  refine b_iload_n hO dX11_plan_57 2 rfl rfl ?_
  refine b_callVI hO mdX11_planNothing mvX11_planNothing w991 (ci := 11) rfl rfl (by decide) kLX_0 (As := [.int _, .int _]) (st := []) (ctX11_planNothing n0 hO.2.2.2.2.2.2.1 _ _ _) (Nat.le_of_ble_eq_true rfl) rfl rfl (Nat.le_of_ble_eq_true rfl) dX11_plan_58 (fun z58 => ?_)
  refine b_if_ne hO dX11_plan_61 (tgt := 89) (by decide) ?_ ?_
  · refine b_sub [0, 3] rfl ?_
    exact tfX11_plan_89 n0 hO _ _
  · refine b_aload_n hO dX11_plan_64 0 rfl rfl ?_
    refine b_iload_n hO dX11_plan_65 1 rfl rfl ?_
    refine b_iload_n hO dX11_plan_66 2 rfl rfl ?_
    refine b_callVI hO mdX11_planNeeded mvX11_planNeeded w1007 (ci := 11) rfl rfl (by decide) kLX_0 (As := [.int _, .int _]) (st := []) (ctX11_planNeeded n0 hO.2.2.2.2.2.2.1 _ _ _) (Nat.le_of_ble_eq_true rfl) rfl rfl (Nat.le_of_ble_eq_true rfl) dX11_plan_67 (fun z67 => ?_)
    refine b_if_eq hO dX11_plan_70 (tgt := 93) (by decide) ?_ ?_
    · refine b_sub [0, 3] rfl ?_
      exact tfX11_plan_93 n0 hO _ _
    · refine b_aload_n hO dX11_plan_73 0 rfl rfl ?_
      refine b_callVI hO mdX11_countPlanned mvX11_countPlanned w1015 (ci := 11) rfl rfl (by decide) kLX_0 (As := []) (st := []) (ctX11_countPlanned n0 hO.2.2.2.2.2.2.1 _) (Nat.le_of_ble_eq_true rfl) rfl rfl (Nat.le_of_ble_eq_true rfl) dX11_plan_74 (fun z74 => ?_)
      refine b_if_gt hO dX11_plan_77 (tgt := 89) (by decide) ?_ ?_
      · refine b_sub [0, 3] rfl ?_
        exact tfX11_plan_89 n0 hO _ _
      · refine b_aload_n hO dX11_plan_80 0 rfl rfl ?_
        refine b_iload_n hO dX11_plan_81 1 rfl rfl ?_
        refine b_iload_n hO dX11_plan_82 2 rfl rfl ?_
        refine b_callVI hO mdX11_planAnywhere mvX11_planAnywhere w1019 (ci := 11) rfl rfl (by decide) kLX_0 (As := [.int _, .int _]) (st := []) (ctX11_planAnywhere n0 hO.2.2.2.2.2.2.1 _ _ _) (Nat.le_of_ble_eq_true rfl) rfl rfl (Nat.le_of_ble_eq_true rfl) dX11_plan_83 (fun z83 => ?_)
        refine b_if_eq hO dX11_plan_86 (tgt := 93) (by decide) ?_ ?_
        · refine b_sub [0, 3] rfl ?_
          exact tfX11_plan_93 n0 hO _ _
        · refine b_sub [0, 3] rfl ?_
          exact tfX11_plan_89 n0 hO _ _
theorem tfX11_plan (n0 : Nat) (hO : OKc p (rmL 8) s m args meth c LX D cy ad cX11_plan RX11 5 8 (some .int)) (x1 : Int32) (x2 : Int32) (x3 : Int32) (M : Mem) : BL p l e (rmL 8) s m args below meth c LX D cy ad 5 (QI LX D cy ad) 0 [(0, .ref (ad 0)), (1, .int x1), (2, .int x2), (3, .int x3)] [] M (fX11_plan n0 x1 x2 x3 M) := by
  unfold fX11_plan
  refine b_iload_n hO dX11_plan_0 1 rfl rfl ?_
  refine b_if_lt hO dX11_plan_1 (tgt := 35) (by decide) ?_ ?_
  · refine b_iconst hO dX11_plan_35 ic_i_m1 ?_
    exact b_iret hO dX11_plan_36
  · refine b_iload_n hO dX11_plan_4 1 rfl rfl ?_
    refine b_iconst hO dX11_plan_5 ic_i_1 ?_
    refine b_aload_n hO dX11_plan_6 0 rfl rfl ?_
    refine b_getR hO flX11_19 kLX_0 (id := 1) rfl rfl (rk := 9) rfl (by decide) dX11_plan_7 (fun hg1 => ?_)
    refine b_get hO flX11_145 hg1 (v := .int (gI _ (128 * (gR M 1) + 12))) rfl dX11_plan_10 ?_
    refine b_ishl hO dX11_plan_13 ?_
    refine b_icmp_ge hO dX11_plan_14 (tgt := 35) (by decide) ?_ ?_
    · refine b_iconst hO dX11_plan_35 ic_i_m1 ?_
      exact b_iret hO dX11_plan_36
    · refine b_iload_n hO dX11_plan_17 2 rfl rfl ?_
      refine b_if_lt hO dX11_plan_18 (tgt := 35) (by decide) ?_ ?_
      · refine b_iconst hO dX11_plan_35 ic_i_m1 ?_
        exact b_iret hO dX11_plan_36
      · refine b_iload_n hO dX11_plan_21 2 rfl rfl ?_
        refine b_bipush hO dX11_plan_22 ic_b_20 ?_
        refine b_icmp_gt hO dX11_plan_24 (tgt := 35) (by decide) ?_ ?_
        · refine b_iconst hO dX11_plan_35 ic_i_m1 ?_
          exact b_iret hO dX11_plan_36
        · refine b_aload_n hO dX11_plan_27 0 rfl rfl ?_
          refine b_iload_n hO dX11_plan_28 2 rfl rfl ?_
          refine b_callVI hO mdX11_isBeyond mvX11_isBeyond w962 (ci := 11) rfl rfl (by decide) kLX_0 (As := [.int _]) (st := []) (ctX11_isBeyond n0 hO.2.2.2.2.2.2.1 _ _) (Nat.le_of_ble_eq_true rfl) rfl rfl (Nat.le_of_ble_eq_true rfl) dX11_plan_29 (fun z29 => ?_)
          refine b_if_eq hO dX11_plan_32 (tgt := 37) (by decide) ?_ ?_
          · refine b_iload_n hO dX11_plan_37 3 rfl rfl ?_
            refine b_iconst hO dX11_plan_38 ic_i_m1 ?_
            refine b_icmp_eq hO dX11_plan_39 (tgt := 55) (by decide) ?_ ?_
            · exact tfX11_plan_55 n0 hO _ _ _ _
            · refine b_aload_n hO dX11_plan_42 0 rfl rfl ?_
              refine b_getR hO flX11_19 kLX_0 (id := 1) rfl rfl (rk := 9) rfl (by decide) dX11_plan_43 (fun hg2 => ?_)
              refine b_iload_n hO dX11_plan_46 3 rfl rfl ?_
              refine b_callVI hO mdX9_isCorner mvX9_isCorner w928 (ci := 9) rfl rfl (by decide) hg2 (As := [.int _]) (st := []) (ctX9_isCorner n0 _ hg2 hO.2.2.2.2.2.2.1 _ _) (Nat.le_of_ble_eq_true rfl) rfl rfl (Nat.le_of_ble_eq_true rfl) dX11_plan_47 (fun z47 => ?_)
              refine b_if_ne hO dX11_plan_50 (tgt := 55) (by decide) ?_ ?_
              · exact tfX11_plan_55 n0 hO _ _ _ _
              · refine b_iconst hO dX11_plan_53 ic_i_m1 ?_
                exact b_iret hO dX11_plan_54
          · refine b_iconst hO dX11_plan_35 ic_i_m1 ?_
            exact b_iret hO dX11_plan_36
theorem ctX11_plan (n0 : Nat) (hI : Inj LX ad) (x1 : Int32) (x2 : Int32) (x3 : Int32) (M : Mem) : CT l LX D cy ad yX11_plan cX11_plan 5 (some .int) 8 (QI LX D cy ad) [.ref (ad 0), .int x1, .int x2, .int x3] M (fX11_plan n0 x1 x2 x3 M) :=
  CT.mk LXok hI (by decide) (Nat.le_of_ble_eq_true rfl) (fun hO => tfX11_plan n0 hO x1 x2 x3 M)
/-! X11_countStaying -/
def bX11_countStaying_34 (n0 : Nat) (k34 : Int32 → Int32 → Mem → Option (Int32 × Mem)) (x3 : Int32) (x4 : Int32) (M : Mem) : Option (Int32 × Mem) :=
  if x3 < x4 then
    some (x3, M)
  else
    if oob x4 61 then none else
    if oob (0 : Int32) 61 then none else
    if (gA M 26 (Int32.toNatClampNeg x4)) = (gA M 26 (Int32.toNatClampNeg (0 : Int32))) then
      k34 x3 (x4 + (1 : Int32)) M
    else
      some ((x4 - (1 : Int32)), M)
def fX11_countStaying_34 (n0 : Nat) : Int32 → Int32 → Mem → Option (Int32 × Mem) := loopN (bX11_countStaying_34 n0) (fun _ _ _ => none) n0
def fX11_countStaying (n0 : Nat) (x1 : Int32) (x2 : Int32) (M : Mem) : Option (Int32 × Mem) :=
  (fX1_hold n0 x1 x2 (0 : Int32) (gI M 1281) M).bind fun z14 =>
  (fX1_foresee n0 26 (60 : Int32) z14).bind fun z27 =>
  fX11_countStaying_34 n0 z27.1 (1 : Int32) z27.2
theorem tbX11_countStaying_34 (n0 : Nat) (hO : OKc p (rmL 6) s m args meth c LX D cy ad cX11_countStaying RX11 5 6 (some .int)) (k34 : Int32 → Int32 → Mem → Option (Int32 × Mem)) (hk34 : ∀ (x3 : Int32) (x4 : Int32) (M : Mem), BL p l e (rmL 6) s m args below meth c LX D cy ad 5 (QI LX D cy ad) 34 [(0, .ref (ad 0)), (3, .int x3), (4, .int x4)] [] M (k34 x3 x4 M)) (x3 : Int32) (x4 : Int32) (M : Mem) : BL p l e (rmL 6) s m args below meth c LX D cy ad 5 (QI LX D cy ad) 34 [(0, .ref (ad 0)), (3, .int x3), (4, .int x4)] [] M (bX11_countStaying_34 n0 k34 x3 x4 M) := by
  unfold bX11_countStaying_34
  refine b_iload hO dX11_countStaying_34 2 rfl ?_
  refine b_iload_n hO dX11_countStaying_36 1 rfl rfl ?_
  refine b_icmp_gt hO dX11_countStaying_37 (tgt := 67) (by decide) ?_ ?_
  · refine b_iload_n hO dX11_countStaying_67 1 rfl rfl ?_
    exact b_iret hO dX11_countStaying_68
  · refine b_aload_n hO dX11_countStaying_40 0 rfl rfl ?_
    refine b_get hO flX11_72 kLX_0 (v := .ref (ad 26)) rfl dX11_countStaying_41 ?_
    refine b_iload hO dX11_countStaying_44 2 rfl ?_
    refine b_iald hO kLX_26 (n := 61) rfl dX11_countStaying_46 ?_
    refine b_aload_n hO dX11_countStaying_47 0 rfl rfl ?_
    refine b_get hO flX11_72 kLX_0 (v := .ref (ad 26)) rfl dX11_countStaying_48 ?_
    refine b_iconst hO dX11_countStaying_51 ic_i_0 ?_
    refine b_iald hO kLX_26 (n := 61) rfl dX11_countStaying_52 ?_
    refine b_icmp_eq hO dX11_countStaying_53 (tgt := 61) (by decide) ?_ ?_
    · refine b_iinc hO dX11_countStaying_61 2 rfl ic_i_1 (by decide) (lv' := [(4, .int _), (0, .ref _), (3, .int _)]) rfl ?_
      refine b_goto hO dX11_countStaying_64 (tgt := 34) (by decide) ?_
      refine b_sub [1, 2, 0] rfl ?_
      exact hk34 _ _ _
    · refine b_iload hO dX11_countStaying_56 2 rfl ?_
      refine b_iconst hO dX11_countStaying_58 ic_i_1 ?_
      refine b_isub hO dX11_countStaying_59 ?_
      exact b_iret hO dX11_countStaying_60
theorem lX11_countStaying_34 (n0 : Nat) (hO : OKc p (rmL 6) s m args meth c LX D cy ad cX11_countStaying RX11 5 6 (some .int)) : ∀ (w : Nat) (x3 : Int32) (x4 : Int32) (M : Mem), BL p l e (rmL 6) s m args below meth c LX D cy ad 5 (QI LX D cy ad) 34 [(0, .ref (ad 0)), (3, .int x3), (4, .int x4)] [] M (loopN (bX11_countStaying_34 n0) (fun _ _ _ => none) w x3 x4 M) := by
  intro w
  induction w with
  | zero =>
    intros
    exact b_none
  | succ w ih =>
    intro x3 x4 M
    exact tbX11_countStaying_34 n0 hO _ ih x3 x4 M
theorem tfX11_countStaying_34 (n0 : Nat) (hO : OKc p (rmL 6) s m args meth c LX D cy ad cX11_countStaying RX11 5 6 (some .int)) (x3 : Int32) (x4 : Int32) (M : Mem) : BL p l e (rmL 6) s m args below meth c LX D cy ad 5 (QI LX D cy ad) 34 [(0, .ref (ad 0)), (3, .int x3), (4, .int x4)] [] M (fX11_countStaying_34 n0 x3 x4 M) := lX11_countStaying_34 n0 hO n0 x3 x4 M
theorem tfX11_countStaying (n0 : Nat) (hO : OKc p (rmL 6) s m args meth c LX D cy ad cX11_countStaying RX11 5 6 (some .int)) (x1 : Int32) (x2 : Int32) (M : Mem) : BL p l e (rmL 6) s m args below meth c LX D cy ad 5 (QI LX D cy ad) 0 [(0, .ref (ad 0)), (1, .int x1), (2, .int x2)] [] M (fX11_countStaying n0 x1 x2 M) := by
  unfold fX11_countStaying
  refine b_aload_n hO dX11_countStaying_0 0 rfl rfl ?_
  refine b_get hO flX11_40 kLX_0 (v := .ref (ad 7)) rfl dX11_countStaying_1 ?_
  refine b_iload_n hO dX11_countStaying_4 1 rfl rfl ?_
  refine b_iload_n hO dX11_countStaying_5 2 rfl rfl ?_
  refine b_iconst hO dX11_countStaying_6 ic_i_0 ?_
  refine b_aload_n hO dX11_countStaying_7 0 rfl rfl ?_
  refine b_get hO flX11_47 kLX_0 (v := .ref (ad 10)) rfl dX11_countStaying_8 ?_
  refine b_get hO flX11_148 kLX_10 (v := .int (gI _ 1281)) rfl dX11_countStaying_11 ?_
  refine b_callVV hO mdX1_hold mvX1_hold w952 (ci := 1) rfl rfl (by decide) kLX_7 (As := [.int _, .int _, .int _, .int _]) (st := []) (ctX1_hold n0 hO.2.2.2.2.2.2.1 _ _ _ _ _) (Nat.le_of_ble_eq_true rfl) rfl rfl (Nat.le_of_ble_eq_true rfl) dX11_countStaying_14 (fun z14 => ?_)
  refine b_aload_n hO dX11_countStaying_17 0 rfl rfl ?_
  refine b_get hO flX11_40 kLX_0 (v := .ref (ad 7)) rfl dX11_countStaying_18 ?_
  refine b_aload_n hO dX11_countStaying_21 0 rfl rfl ?_
  refine b_get hO flX11_72 kLX_0 (v := .ref (ad 26)) rfl dX11_countStaying_22 ?_
  refine b_bipush hO dX11_countStaying_25 ic_b_60 ?_
  refine b_callVI hO mdX1_foresee mvX1_foresee w970 (ci := 1) rfl rfl (by decide) kLX_7 (As := [.ref _, .int _]) (st := []) (ctX1_foresee n0 _ kLX_26 hO.2.2.2.2.2.2.1 _ _) (Nat.le_of_ble_eq_true rfl) rfl rfl (Nat.le_of_ble_eq_true rfl) dX11_countStaying_27 (fun z27 => ?_)
  refine b_istore_n hO dX11_countStaying_30 rfl (by decide) (lv' := [(3, .int _), (0, .ref _), (1, .int _), (2, .int _)]) rfl ?_
  refine b_iconst hO dX11_countStaying_31 ic_i_1 ?_
  refine b_istore hO dX11_countStaying_32 (by decide) (lv' := [(4, .int _), (3, .int _), (0, .ref _), (1, .int _), (2, .int _)]) rfl ?_
  refine b_sub [2, 1, 0] rfl ?_
  exact tfX11_countStaying_34 n0 hO _ _ _
theorem ctX11_countStaying (n0 : Nat) (hI : Inj LX ad) (x1 : Int32) (x2 : Int32) (M : Mem) : CT l LX D cy ad yX11_countStaying cX11_countStaying 5 (some .int) 6 (QI LX D cy ad) [.ref (ad 0), .int x1, .int x2] M (fX11_countStaying n0 x1 x2 M) :=
  CT.mk LXok hI (by decide) (Nat.le_of_ble_eq_true rfl) (fun hO => tfX11_countStaying n0 hO x1 x2 M)
/-! X11_evening -/
def fX11_evening_75 (n0 : Nat) (k40 : Int32 → Int32 → Int32 → Int32 → Int32 → Mem → Option (Int32 × Mem)) (x1 : Int32) (x2 : Int32) (x3 : Int32) (x4 : Int32) (x5 : Int32) (M : Mem) : Option (Int32 × Mem) :=
  k40 x1 x2 x3 x4 (x5 + (1 : Int32)) M
def bX11_evening_40 (n0 : Nat) (k40 : Int32 → Int32 → Int32 → Int32 → Int32 → Mem → Option (Int32 × Mem)) (x1 : Int32) (x2 : Int32) (x3 : Int32) (x4 : Int32) (x5 : Int32) (M : Mem) : Option (Int32 × Mem) :=
  if (gI M (128 * (gR M 1) + 1)) ≤ x5 then
    if x2 = 0 then
      some (x3, M)
    else
      some (x4, M)
  else
    (fX11_countStaying n0 x1 x5 M).bind fun z56 =>
    if z56.1 ≤ x4 then
      fX11_evening_75 n0 k40 x1 x2 x3 x4 x5 z56.2
    else
      fX11_evening_75 n0 k40 x1 x2 x5 z56.1 x5 z56.2
def fX11_evening_40 (n0 : Nat) : Int32 → Int32 → Int32 → Int32 → Int32 → Mem → Option (Int32 × Mem) := loopN (bX11_evening_40 n0) (fun _ _ _ _ _ _ => none) n0
def fX11_evening (n0 : Nat) (x1 : Int32) (x2 : Int32) (M : Mem) : Option (Int32 × Mem) :=
  (fX9_isCorner n0 (gR M 1) x1 M).bind fun z5 =>
  if z5.1 = 0 then
    some ((-1 : Int32), z5.2)
  else
    if (gI z5.2 (128 * (gR z5.2 1) + 1)) = 0 then
      some ((-1 : Int32), z5.2)
    else
      if x2 < 0 then
        some ((-1 : Int32), z5.2)
      else
        if x2 ≤ (1 : Int32) then
          fX11_evening_40 n0 x1 x2 (0 : Int32) (-1 : Int32) (0 : Int32) z5.2
        else
          some ((-1 : Int32), z5.2)
theorem tfX11_evening_75 (n0 : Nat) (hO : OKc p (rmL 7) s m args meth c LX D cy ad cX11_evening RX11 7 7 (some .int)) (k40 : Int32 → Int32 → Int32 → Int32 → Int32 → Mem → Option (Int32 × Mem)) (hk40 : ∀ (x1 : Int32) (x2 : Int32) (x3 : Int32) (x4 : Int32) (x5 : Int32) (M : Mem), BL p l e (rmL 7) s m args below meth c LX D cy ad 7 (QI LX D cy ad) 40 [(0, .ref (ad 0)), (1, .int x1), (2, .int x2), (3, .int x3), (4, .int x4), (5, .int x5)] [] M (k40 x1 x2 x3 x4 x5 M)) (x1 : Int32) (x2 : Int32) (x3 : Int32) (x4 : Int32) (x5 : Int32) (M : Mem) : BL p l e (rmL 7) s m args below meth c LX D cy ad 7 (QI LX D cy ad) 75 [(0, .ref (ad 0)), (1, .int x1), (2, .int x2), (3, .int x3), (4, .int x4), (5, .int x5)] [] M (fX11_evening_75 n0 k40 x1 x2 x3 x4 x5 M) := by
  unfold fX11_evening_75
  refine b_iinc hO dX11_evening_75 5 rfl ic_i_1 (by decide) (lv' := [(5, .int _), (0, .ref _), (1, .int _), (2, .int _), (3, .int _), (4, .int _)]) rfl ?_
  refine b_goto hO dX11_evening_78 (tgt := 40) (by decide) ?_
  refine b_sub [1, 2, 3, 4, 5, 0] rfl ?_
  exact hk40 _ _ _ _ _ _
theorem tbX11_evening_40 (n0 : Nat) (hO : OKc p (rmL 7) s m args meth c LX D cy ad cX11_evening RX11 7 7 (some .int)) (k40 : Int32 → Int32 → Int32 → Int32 → Int32 → Mem → Option (Int32 × Mem)) (hk40 : ∀ (x1 : Int32) (x2 : Int32) (x3 : Int32) (x4 : Int32) (x5 : Int32) (M : Mem), BL p l e (rmL 7) s m args below meth c LX D cy ad 7 (QI LX D cy ad) 40 [(0, .ref (ad 0)), (1, .int x1), (2, .int x2), (3, .int x3), (4, .int x4), (5, .int x5)] [] M (k40 x1 x2 x3 x4 x5 M)) (x1 : Int32) (x2 : Int32) (x3 : Int32) (x4 : Int32) (x5 : Int32) (M : Mem) : BL p l e (rmL 7) s m args below meth c LX D cy ad 7 (QI LX D cy ad) 40 [(0, .ref (ad 0)), (1, .int x1), (2, .int x2), (3, .int x3), (4, .int x4), (5, .int x5)] [] M (bX11_evening_40 n0 k40 x1 x2 x3 x4 x5 M) := by
  unfold bX11_evening_40
  refine b_iload hO dX11_evening_40 5 rfl ?_
  refine b_aload_n hO dX11_evening_42 0 rfl rfl ?_
  refine b_getR hO flX11_19 kLX_0 (id := 1) rfl rfl (rk := 9) rfl (by decide) dX11_evening_43 (fun hg1 => ?_)
  refine b_get hO flX11_136 hg1 (v := .int (gI _ (128 * (gR M 1) + 1))) rfl dX11_evening_46 ?_
  refine b_icmp_ge hO dX11_evening_49 (tgt := 81) (by decide) ?_ ?_
  · refine b_iload_n hO dX11_evening_81 2 rfl rfl ?_
    refine b_if_ne hO dX11_evening_82 (tgt := 89) (by decide) ?_ ?_
    · refine b_iload hO dX11_evening_89 4 rfl ?_
      exact b_iret hO dX11_evening_91
    · refine b_iload_n hO dX11_evening_85 3 rfl rfl ?_
      refine b_goto hO dX11_evening_86 (tgt := 91) (by decide) ?_
      exact b_iret hO dX11_evening_91
  · refine b_aload_n hO dX11_evening_52 0 rfl rfl ?_
    refine b_iload_n hO dX11_evening_53 1 rfl rfl ?_
    refine b_iload hO dX11_evening_54 5 rfl ?_
    refine b_callVI hO mdX11_countStaying mvX11_countStaying w1027 (ci := 11) rfl rfl (by decide) kLX_0 (As := [.int _, .int _]) (st := []) (ctX11_countStaying n0 hO.2.2.2.2.2.2.1 _ _ _) (Nat.le_of_ble_eq_true rfl) rfl rfl (Nat.le_of_ble_eq_true rfl) dX11_evening_56 (fun z56 => ?_)
    refine b_istore hO dX11_evening_59 (by decide) (lv' := [(6, .int _), (0, .ref _), (1, .int _), (2, .int _), (3, .int _), (4, .int _), (5, .int _)]) rfl ?_
    refine b_iload hO dX11_evening_61 0 rfl ?_
    refine b_iload hO dX11_evening_63 5 rfl ?_
    refine b_icmp_le hO dX11_evening_65 (tgt := 75) (by decide) ?_ ?_
    · refine b_sub [1, 2, 3, 4, 5, 6] rfl ?_
      exact tfX11_evening_75 n0 hO k40 hk40 _ _ _ _ _ _
    · refine b_iload hO dX11_evening_68 6 rfl ?_
      refine b_istore_n hO dX11_evening_70 rfl (by decide) (lv' := [(3, .int _), (6, .int _), (0, .ref _), (1, .int _), (2, .int _), (4, .int _), (5, .int _)]) rfl ?_
      refine b_iload hO dX11_evening_71 1 rfl ?_
      refine b_istore hO dX11_evening_73 (by decide) (lv' := [(4, .int _), (3, .int _), (6, .int _), (0, .ref _), (1, .int _), (2, .int _), (5, .int _)]) rfl ?_
      refine b_sub [3, 4, 5, 1, 0, 6] rfl ?_
      exact tfX11_evening_75 n0 hO k40 hk40 _ _ _ _ _ _
theorem lX11_evening_40 (n0 : Nat) (hO : OKc p (rmL 7) s m args meth c LX D cy ad cX11_evening RX11 7 7 (some .int)) : ∀ (w : Nat) (x1 : Int32) (x2 : Int32) (x3 : Int32) (x4 : Int32) (x5 : Int32) (M : Mem), BL p l e (rmL 7) s m args below meth c LX D cy ad 7 (QI LX D cy ad) 40 [(0, .ref (ad 0)), (1, .int x1), (2, .int x2), (3, .int x3), (4, .int x4), (5, .int x5)] [] M (loopN (bX11_evening_40 n0) (fun _ _ _ _ _ _ => none) w x1 x2 x3 x4 x5 M) := by
  intro w
  induction w with
  | zero =>
    intros
    exact b_none
  | succ w ih =>
    intro x1 x2 x3 x4 x5 M
    exact tbX11_evening_40 n0 hO _ ih x1 x2 x3 x4 x5 M
theorem tfX11_evening_40 (n0 : Nat) (hO : OKc p (rmL 7) s m args meth c LX D cy ad cX11_evening RX11 7 7 (some .int)) (x1 : Int32) (x2 : Int32) (x3 : Int32) (x4 : Int32) (x5 : Int32) (M : Mem) : BL p l e (rmL 7) s m args below meth c LX D cy ad 7 (QI LX D cy ad) 40 [(0, .ref (ad 0)), (1, .int x1), (2, .int x2), (3, .int x3), (4, .int x4), (5, .int x5)] [] M (fX11_evening_40 n0 x1 x2 x3 x4 x5 M) := lX11_evening_40 n0 hO n0 x1 x2 x3 x4 x5 M
theorem tfX11_evening (n0 : Nat) (hO : OKc p (rmL 7) s m args meth c LX D cy ad cX11_evening RX11 7 7 (some .int)) (x1 : Int32) (x2 : Int32) (M : Mem) : BL p l e (rmL 7) s m args below meth c LX D cy ad 7 (QI LX D cy ad) 0 [(0, .ref (ad 0)), (1, .int x1), (2, .int x2)] [] M (fX11_evening n0 x1 x2 M) := by
  unfold fX11_evening
  refine b_aload_n hO dX11_evening_0 0 rfl rfl ?_
  refine b_getR hO flX11_19 kLX_0 (id := 1) rfl rfl (rk := 9) rfl (by decide) dX11_evening_1 (fun hg1 => ?_)
  refine b_iload_n hO dX11_evening_4 1 rfl rfl ?_
  refine b_callVI hO mdX9_isCorner mvX9_isCorner w928 (ci := 9) rfl rfl (by decide) hg1 (As := [.int _]) (st := []) (ctX9_isCorner n0 _ hg1 hO.2.2.2.2.2.2.1 _ _) (Nat.le_of_ble_eq_true rfl) rfl rfl (Nat.le_of_ble_eq_true rfl) dX11_evening_5 (fun z5 => ?_)
  refine b_if_eq hO dX11_evening_8 (tgt := 30) (by decide) ?_ ?_
  · refine b_iconst hO dX11_evening_30 ic_i_m1 ?_
    exact b_iret hO dX11_evening_31
  · refine b_aload_n hO dX11_evening_11 0 rfl rfl ?_
    refine b_getR hO flX11_19 kLX_0 (id := 1) rfl rfl (rk := 9) rfl (by decide) dX11_evening_12 (fun hg2 => ?_)
    refine b_get hO flX11_136 hg2 (v := .int (gI _ (128 * (gR z5.2 1) + 1))) rfl dX11_evening_15 ?_
    refine b_if_eq hO dX11_evening_18 (tgt := 30) (by decide) ?_ ?_
    · refine b_iconst hO dX11_evening_30 ic_i_m1 ?_
      exact b_iret hO dX11_evening_31
    · refine b_iload_n hO dX11_evening_21 2 rfl rfl ?_
      refine b_if_lt hO dX11_evening_22 (tgt := 30) (by decide) ?_ ?_
      · refine b_iconst hO dX11_evening_30 ic_i_m1 ?_
        exact b_iret hO dX11_evening_31
      · refine b_iload_n hO dX11_evening_25 2 rfl rfl ?_
        refine b_iconst hO dX11_evening_26 ic_i_1 ?_
        refine b_icmp_le hO dX11_evening_27 (tgt := 32) (by decide) ?_ ?_
        · refine b_iconst hO dX11_evening_32 ic_i_0 ?_
          refine b_istore_n hO dX11_evening_33 rfl (by decide) (lv' := [(3, .int _), (0, .ref _), (1, .int _), (2, .int _)]) rfl ?_
          refine b_iconst hO dX11_evening_34 ic_i_m1 ?_
          refine b_istore hO dX11_evening_35 (by decide) (lv' := [(4, .int _), (3, .int _), (0, .ref _), (1, .int _), (2, .int _)]) rfl ?_
          refine b_iconst hO dX11_evening_37 ic_i_0 ?_
          refine b_istore hO dX11_evening_38 (by decide) (lv' := [(5, .int _), (4, .int _), (3, .int _), (0, .ref _), (1, .int _), (2, .int _)]) rfl ?_
          refine b_sub [3, 4, 5, 2, 1, 0] rfl ?_
          exact tfX11_evening_40 n0 hO _ _ _ _ _ _
        · refine b_iconst hO dX11_evening_30 ic_i_m1 ?_
          exact b_iret hO dX11_evening_31
theorem ctX11_evening (n0 : Nat) (hI : Inj LX ad) (x1 : Int32) (x2 : Int32) (M : Mem) : CT l LX D cy ad yX11_evening cX11_evening 7 (some .int) 7 (QI LX D cy ad) [.ref (ad 0), .int x1, .int x2] M (fX11_evening n0 x1 x2 M) :=
  CT.mk LXok hI (by decide) (Nat.le_of_ble_eq_true rfl) (fun hO => tfX11_evening n0 hO x1 x2 M)
/-! X11_countRowsWithout -/
def fX11_countRowsWithout (n0 : Nat) (M : Mem) : Option (Int64 × Mem) :=
  bnd (((((100 : Int32) - (gI M (128 * (gR M 1) + 16)))).toInt64 * ((gI M (128 * (gR M 1) + 5))).toInt64) * ((gI M (128 * (gR M 1) + 1))).toInt64) fun y1_29 =>
  some ((y1_29 + ((((gI M (128 * (gR M 1) + 16))).toInt64 * (((gI M (128 * (gR M 1) + 5)) - (1 : Int32))).toInt64) * ((gI M (128 * (gR M 1) + 1))).toInt64)), M)
theorem tfX11_countRowsWithout (n0 : Nat) (hO : OKc p (rmL 1) s m args meth c LX D cy ad cX11_countRowsWithout RX11 3 1 (some .long)) (M : Mem) : BL p l e (rmL 1) s m args below meth c LX D cy ad 3 (QL LX D cy ad) 0 [(0, .ref (ad 0))] [] M (fX11_countRowsWithout n0 M) := by
  unfold fX11_countRowsWithout
  refine b_bipush hO dX11_countRowsWithout_0 ic_b_100 ?_
  refine b_aload_n hO dX11_countRowsWithout_2 0 rfl rfl ?_
  refine b_getR hO flX11_19 kLX_0 (id := 1) rfl rfl (rk := 9) rfl (by decide) dX11_countRowsWithout_3 (fun hg1 => ?_)
  refine b_get hO flX11_346 hg1 (v := .int (gI _ (128 * (gR M 1) + 16))) rfl dX11_countRowsWithout_6 ?_
  refine b_isub hO dX11_countRowsWithout_9 ?_
  refine b_i2l hO dX11_countRowsWithout_10 ?_
  refine b_aload_n hO dX11_countRowsWithout_11 0 rfl rfl ?_
  refine b_getR hO flX11_19 kLX_0 (id := 1) rfl rfl (rk := 9) rfl (by decide) dX11_countRowsWithout_12 (fun hg2 => ?_)
  refine b_get hO flX11_139 hg2 (v := .int (gI _ (128 * (gR M 1) + 5))) rfl dX11_countRowsWithout_15 ?_
  refine b_i2l hO dX11_countRowsWithout_18 ?_
  refine b_lmul hO dX11_countRowsWithout_19 ?_
  refine b_aload_n hO dX11_countRowsWithout_20 0 rfl rfl ?_
  refine b_getR hO flX11_19 kLX_0 (id := 1) rfl rfl (rk := 9) rfl (by decide) dX11_countRowsWithout_21 (fun hg3 => ?_)
  refine b_get hO flX11_136 hg3 (v := .int (gI _ (128 * (gR M 1) + 1))) rfl dX11_countRowsWithout_24 ?_
  refine b_i2l hO dX11_countRowsWithout_27 ?_
  refine b_lmul hO dX11_countRowsWithout_28 ?_
  refine b_topL (fun y1_29 => ?_)
  refine b_lstore_n hO dX11_countRowsWithout_29 rfl (by decide) (lv' := [(1, .long _), (0, .ref _)]) rfl ?_
  refine b_lload_n hO dX11_countRowsWithout_30 0 rfl rfl ?_
  refine b_aload_n hO dX11_countRowsWithout_31 1 rfl rfl ?_
  refine b_getR hO flX11_19 kLX_0 (id := 1) rfl rfl (rk := 9) rfl (by decide) dX11_countRowsWithout_32 (fun hg4 => ?_)
  refine b_get hO flX11_346 hg4 (v := .int (gI _ (128 * (gR M 1) + 16))) rfl dX11_countRowsWithout_35 ?_
  refine b_i2l hO dX11_countRowsWithout_38 ?_
  refine b_aload_n hO dX11_countRowsWithout_39 1 rfl rfl ?_
  refine b_getR hO flX11_19 kLX_0 (id := 1) rfl rfl (rk := 9) rfl (by decide) dX11_countRowsWithout_40 (fun hg5 => ?_)
  refine b_get hO flX11_139 hg5 (v := .int (gI _ (128 * (gR M 1) + 5))) rfl dX11_countRowsWithout_43 ?_
  refine b_iconst hO dX11_countRowsWithout_46 ic_i_1 ?_
  refine b_isub hO dX11_countRowsWithout_47 ?_
  refine b_i2l hO dX11_countRowsWithout_48 ?_
  refine b_lmul hO dX11_countRowsWithout_49 ?_
  refine b_aload_n hO dX11_countRowsWithout_50 1 rfl rfl ?_
  refine b_getR hO flX11_19 kLX_0 (id := 1) rfl rfl (rk := 9) rfl (by decide) dX11_countRowsWithout_51 (fun hg6 => ?_)
  refine b_get hO flX11_136 hg6 (v := .int (gI _ (128 * (gR M 1) + 1))) rfl dX11_countRowsWithout_54 ?_
  refine b_i2l hO dX11_countRowsWithout_57 ?_
  refine b_lmul hO dX11_countRowsWithout_58 ?_
  refine b_ladd hO dX11_countRowsWithout_59 ?_
  exact b_lret hO dX11_countRowsWithout_60
theorem ctX11_countRowsWithout (n0 : Nat) (hI : Inj LX ad) (M : Mem) : CT l LX D cy ad yX11_countRowsWithout cX11_countRowsWithout 3 (some .long) 1 (QL LX D cy ad) [.ref (ad 0)] M (fX11_countRowsWithout n0 M) :=
  CT.mk LXok hI (by decide) (Nat.le_of_ble_eq_true rfl) (fun hO => tfX11_countRowsWithout n0 hO M)
/-! X11_countRowsOfOne -/
def fX11_countRowsOfOne_88 (n0 : Nat) (k30 : Int32 → Int64 → Int32 → Mem → Option (Int64 × Mem)) (x1 : Int32) (y2 : Int64) (x4 : Int32) (M : Mem) : Option (Int64 × Mem) :=
  k30 x1 y2 (x4 + (1 : Int32)) M
def bX11_countRowsOfOne_30 (n0 : Nat) (k30 : Int32 → Int64 → Int32 → Mem → Option (Int64 × Mem)) (x1 : Int32) (y2 : Int64) (x4 : Int32) (M : Mem) : Option (Int64 × Mem) :=
  if (gI M (128 * (gR M 1) + 1)) ≤ x4 then
    some (y2, M)
  else
    (fX1_hold n0 (gI M 897) x4 (0 : Int32) (gI M 900) M).bind fun z63 =>
    (fX1_hourNow n0 z63).bind fun z70 =>
    if z70.1 = x1 then
      bnd (y2 + ((gI z70.2 (128 * (gR z70.2 1) + 16))).toInt64) fun y2_87 =>
      fX11_countRowsOfOne_88 n0 k30 x1 y2_87 x4 z70.2
    else
      fX11_countRowsOfOne_88 n0 k30 x1 y2 x4 z70.2
def fX11_countRowsOfOne_30 (n0 : Nat) : Int32 → Int64 → Int32 → Mem → Option (Int64 × Mem) := loopN (bX11_countRowsOfOne_30 n0) (fun _ _ _ _ => none) n0
def fX11_countRowsOfOne_26 (n0 : Nat) (x1 : Int32) (v0 : Int64) (M : Mem) : Option (Int64 × Mem) :=
  fX11_countRowsOfOne_30 n0 x1 v0 (0 : Int32) M
def fX11_countRowsOfOne (n0 : Nat) (x1 : Int32) (M : Mem) : Option (Int64 × Mem) :=
  (fX1_goOn n0 M).bind fun z4 =>
  (fX1_hourNow n0 z4).bind fun z11 =>
  if z11.1 = x1 then
    (fX11_countRowsWithout n0 z11.2).bind fun z19 =>
    fX11_countRowsOfOne_26 n0 x1 z19.1 z19.2
  else
    fX11_countRowsOfOne_26 n0 x1 (0 : Int64) z11.2
theorem tfX11_countRowsOfOne_88 (n0 : Nat) (hO : OKc p (rmL 5) s m args meth c LX D cy ad cX11_countRowsOfOne RX11 5 5 (some .long)) (k30 : Int32 → Int64 → Int32 → Mem → Option (Int64 × Mem)) (hk30 : ∀ (x1 : Int32) (y2 : Int64) (x4 : Int32) (M : Mem), BL p l e (rmL 5) s m args below meth c LX D cy ad 5 (QL LX D cy ad) 30 [(0, .ref (ad 0)), (1, .int x1), (2, .long y2), (4, .int x4)] [] M (k30 x1 y2 x4 M)) (x1 : Int32) (y2 : Int64) (x4 : Int32) (M : Mem) : BL p l e (rmL 5) s m args below meth c LX D cy ad 5 (QL LX D cy ad) 88 [(0, .ref (ad 0)), (1, .int x1), (2, .long y2), (4, .int x4)] [] M (fX11_countRowsOfOne_88 n0 k30 x1 y2 x4 M) := by
  unfold fX11_countRowsOfOne_88
  refine b_iinc hO dX11_countRowsOfOne_88 3 rfl ic_i_1 (by decide) (lv' := [(4, .int _), (0, .ref _), (1, .int _), (2, .long _)]) rfl ?_
  refine b_goto hO dX11_countRowsOfOne_91 (tgt := 30) (by decide) ?_
  refine b_sub [1, 2, 3, 0] rfl ?_
  exact hk30 _ _ _ _
theorem tbX11_countRowsOfOne_30 (n0 : Nat) (hO : OKc p (rmL 5) s m args meth c LX D cy ad cX11_countRowsOfOne RX11 5 5 (some .long)) (k30 : Int32 → Int64 → Int32 → Mem → Option (Int64 × Mem)) (hk30 : ∀ (x1 : Int32) (y2 : Int64) (x4 : Int32) (M : Mem), BL p l e (rmL 5) s m args below meth c LX D cy ad 5 (QL LX D cy ad) 30 [(0, .ref (ad 0)), (1, .int x1), (2, .long y2), (4, .int x4)] [] M (k30 x1 y2 x4 M)) (x1 : Int32) (y2 : Int64) (x4 : Int32) (M : Mem) : BL p l e (rmL 5) s m args below meth c LX D cy ad 5 (QL LX D cy ad) 30 [(0, .ref (ad 0)), (1, .int x1), (2, .long y2), (4, .int x4)] [] M (bX11_countRowsOfOne_30 n0 k30 x1 y2 x4 M) := by
  unfold bX11_countRowsOfOne_30
  refine b_iload hO dX11_countRowsOfOne_30 3 rfl ?_
  refine b_aload_n hO dX11_countRowsOfOne_32 0 rfl rfl ?_
  refine b_getR hO flX11_19 kLX_0 (id := 1) rfl rfl (rk := 9) rfl (by decide) dX11_countRowsOfOne_33 (fun hg1 => ?_)
  refine b_get hO flX11_136 hg1 (v := .int (gI _ (128 * (gR M 1) + 1))) rfl dX11_countRowsOfOne_36 ?_
  refine b_icmp_ge hO dX11_countRowsOfOne_39 (tgt := 94) (by decide) ?_ ?_
  · refine b_lload_n hO dX11_countRowsOfOne_94 2 rfl rfl ?_
    exact b_lret hO dX11_countRowsOfOne_95
  · refine b_aload_n hO dX11_countRowsOfOne_42 0 rfl rfl ?_
    refine b_get hO flX11_40 kLX_0 (v := .ref (ad 7)) rfl dX11_countRowsOfOne_43 ?_
    refine b_aload_n hO dX11_countRowsOfOne_46 0 rfl rfl ?_
    refine b_get hO flX11_40 kLX_0 (v := .ref (ad 7)) rfl dX11_countRowsOfOne_47 ?_
    refine b_get hO flX11_355 kLX_7 (v := .int (gI _ 897)) rfl dX11_countRowsOfOne_50 ?_
    refine b_iload hO dX11_countRowsOfOne_53 3 rfl ?_
    refine b_iconst hO dX11_countRowsOfOne_55 ic_i_0 ?_
    refine b_aload_n hO dX11_countRowsOfOne_56 0 rfl rfl ?_
    refine b_get hO flX11_40 kLX_0 (v := .ref (ad 7)) rfl dX11_countRowsOfOne_57 ?_
    refine b_get hO flX11_358 kLX_7 (v := .int (gI _ 900)) rfl dX11_countRowsOfOne_60 ?_
    refine b_callVV hO mdX1_hold mvX1_hold w952 (ci := 1) rfl rfl (by decide) kLX_7 (As := [.int _, .int _, .int _, .int _]) (st := []) (ctX1_hold n0 hO.2.2.2.2.2.2.1 _ _ _ _ _) (Nat.le_of_ble_eq_true rfl) rfl rfl (Nat.le_of_ble_eq_true rfl) dX11_countRowsOfOne_63 (fun z63 => ?_)
    refine b_aload_n hO dX11_countRowsOfOne_66 0 rfl rfl ?_
    refine b_get hO flX11_40 kLX_0 (v := .ref (ad 7)) rfl dX11_countRowsOfOne_67 ?_
    refine b_callVI hO mdX1_hourNow mvX1_hourNow w953 (ci := 1) rfl rfl (by decide) kLX_7 (As := []) (st := []) (ctX1_hourNow n0 hO.2.2.2.2.2.2.1 _) (Nat.le_of_ble_eq_true rfl) rfl rfl (Nat.le_of_ble_eq_true rfl) dX11_countRowsOfOne_70 (fun z70 => ?_)
    refine b_iload_n hO dX11_countRowsOfOne_73 1 rfl rfl ?_
    refine b_icmp_ne hO dX11_countRowsOfOne_74 (tgt := 88) (by decide) ?_ ?_
    · exact tfX11_countRowsOfOne_88 n0 hO k30 hk30 _ _ _ _
    · refine b_lload_n hO dX11_countRowsOfOne_77 2 rfl rfl ?_
      refine b_aload_n hO dX11_countRowsOfOne_78 0 rfl rfl ?_
      refine b_getR hO flX11_19 kLX_0 (id := 1) rfl rfl (rk := 9) rfl (by decide) dX11_countRowsOfOne_79 (fun hg2 => ?_)
      refine b_get hO flX11_346 hg2 (v := .int (gI _ (128 * (gR z70.2 1) + 16))) rfl dX11_countRowsOfOne_82 ?_
      refine b_i2l hO dX11_countRowsOfOne_85 ?_
      refine b_ladd hO dX11_countRowsOfOne_86 ?_
      refine b_topL (fun y2_87 => ?_)
      refine b_lstore_n hO dX11_countRowsOfOne_87 rfl (by decide) (lv' := [(2, .long _), (0, .ref _), (1, .int _), (4, .int _)]) rfl ?_
      refine b_sub [1, 2, 0, 3] rfl ?_
      exact tfX11_countRowsOfOne_88 n0 hO k30 hk30 _ _ _ _
theorem lX11_countRowsOfOne_30 (n0 : Nat) (hO : OKc p (rmL 5) s m args meth c LX D cy ad cX11_countRowsOfOne RX11 5 5 (some .long)) : ∀ (w : Nat) (x1 : Int32) (y2 : Int64) (x4 : Int32) (M : Mem), BL p l e (rmL 5) s m args below meth c LX D cy ad 5 (QL LX D cy ad) 30 [(0, .ref (ad 0)), (1, .int x1), (2, .long y2), (4, .int x4)] [] M (loopN (bX11_countRowsOfOne_30 n0) (fun _ _ _ _ => none) w x1 y2 x4 M) := by
  intro w
  induction w with
  | zero =>
    intros
    exact b_none
  | succ w ih =>
    intro x1 y2 x4 M
    exact tbX11_countRowsOfOne_30 n0 hO _ ih x1 y2 x4 M
theorem tfX11_countRowsOfOne_30 (n0 : Nat) (hO : OKc p (rmL 5) s m args meth c LX D cy ad cX11_countRowsOfOne RX11 5 5 (some .long)) (x1 : Int32) (y2 : Int64) (x4 : Int32) (M : Mem) : BL p l e (rmL 5) s m args below meth c LX D cy ad 5 (QL LX D cy ad) 30 [(0, .ref (ad 0)), (1, .int x1), (2, .long y2), (4, .int x4)] [] M (fX11_countRowsOfOne_30 n0 x1 y2 x4 M) := lX11_countRowsOfOne_30 n0 hO n0 x1 y2 x4 M
theorem tfX11_countRowsOfOne_26 (n0 : Nat) (hO : OKc p (rmL 5) s m args meth c LX D cy ad cX11_countRowsOfOne RX11 5 5 (some .long)) (x1 : Int32) (v0 : Int64) (M : Mem) : BL p l e (rmL 5) s m args below meth c LX D cy ad 5 (QL LX D cy ad) 26 [(0, .ref (ad 0)), (1, .int x1)] [.long v0] M (fX11_countRowsOfOne_26 n0 x1 v0 M) := by
  unfold fX11_countRowsOfOne_26
  refine b_lstore_n hO dX11_countRowsOfOne_26 rfl (by decide) (lv' := [(2, .long _), (0, .ref _), (1, .int _)]) rfl ?_
  refine b_iconst hO dX11_countRowsOfOne_27 ic_i_0 ?_
  refine b_istore hO dX11_countRowsOfOne_28 (by decide) (lv' := [(4, .int _), (2, .long _), (0, .ref _), (1, .int _)]) rfl ?_
  refine b_sub [2, 3, 1, 0] rfl ?_
  exact tfX11_countRowsOfOne_30 n0 hO _ _ _ _
theorem tfX11_countRowsOfOne (n0 : Nat) (hO : OKc p (rmL 5) s m args meth c LX D cy ad cX11_countRowsOfOne RX11 5 5 (some .long)) (x1 : Int32) (M : Mem) : BL p l e (rmL 5) s m args below meth c LX D cy ad 5 (QL LX D cy ad) 0 [(0, .ref (ad 0)), (1, .int x1)] [] M (fX11_countRowsOfOne n0 x1 M) := by
  unfold fX11_countRowsOfOne
  refine b_aload_n hO dX11_countRowsOfOne_0 0 rfl rfl ?_
  refine b_get hO flX11_40 kLX_0 (v := .ref (ad 7)) rfl dX11_countRowsOfOne_1 ?_
  refine b_callVV hO mdX1_goOn mvX1_goOn w1041 (ci := 1) rfl rfl (by decide) kLX_7 (As := []) (st := []) (ctX1_goOn n0 hO.2.2.2.2.2.2.1 _) (Nat.le_of_ble_eq_true rfl) rfl rfl (Nat.le_of_ble_eq_true rfl) dX11_countRowsOfOne_4 (fun z4 => ?_)
  refine b_aload_n hO dX11_countRowsOfOne_7 0 rfl rfl ?_
  refine b_get hO flX11_40 kLX_0 (v := .ref (ad 7)) rfl dX11_countRowsOfOne_8 ?_
  refine b_callVI hO mdX1_hourNow mvX1_hourNow w953 (ci := 1) rfl rfl (by decide) kLX_7 (As := []) (st := []) (ctX1_hourNow n0 hO.2.2.2.2.2.2.1 _) (Nat.le_of_ble_eq_true rfl) rfl rfl (Nat.le_of_ble_eq_true rfl) dX11_countRowsOfOne_11 (fun z11 => ?_)
  refine b_iload_n hO dX11_countRowsOfOne_14 1 rfl rfl ?_
  refine b_icmp_ne hO dX11_countRowsOfOne_15 (tgt := 25) (by decide) ?_ ?_
  · refine b_lconst hO dX11_countRowsOfOne_25 (v := 0) rfl ?_
    exact tfX11_countRowsOfOne_26 n0 hO _ _ _
  · refine b_aload_n hO dX11_countRowsOfOne_18 0 rfl rfl ?_
    refine b_callVL hO mdX11_countRowsWithout mvX11_countRowsWithout w1042 (ci := 11) rfl rfl (by decide) kLX_0 (As := []) (st := []) (ctX11_countRowsWithout n0 hO.2.2.2.2.2.2.1 _) (Nat.le_of_ble_eq_true rfl) rfl rfl (Nat.le_of_ble_eq_true rfl) dX11_countRowsOfOne_19 (fun z19 => ?_)
    refine b_goto hO dX11_countRowsOfOne_22 (tgt := 26) (by decide) ?_
    exact tfX11_countRowsOfOne_26 n0 hO _ _ _
theorem ctX11_countRowsOfOne (n0 : Nat) (hI : Inj LX ad) (x1 : Int32) (M : Mem) : CT l LX D cy ad yX11_countRowsOfOne cX11_countRowsOfOne 5 (some .long) 5 (QL LX D cy ad) [.ref (ad 0), .int x1] M (fX11_countRowsOfOne n0 x1 M) :=
  CT.mk LXok hI (by decide) (Nat.le_of_ble_eq_true rfl) (fun hO => tfX11_countRowsOfOne n0 hO x1 M)
/-! X11_countRowsOfTwo -/
def bX11_countRowsOfTwo_38 (n0 : Nat) (k38 : Int32 → Int32 → Int32 → Int64 → Int32 → Mem → Option (Int64 × Mem)) (x1 : Int32) (x2 : Int32) (x3 : Int32) (y4 : Int64) (x6 : Int32) (M : Mem) : Option (Int64 × Mem) :=
  if (gI M (128 * (gR M 1) + 1)) ≤ x6 then
    some (y4, M)
  else
    (fX1_hold n0 x2 x6 (0 : Int32) x3 M).bind fun z59 =>
    (fX11_countRowsOfOne n0 x1 z59).bind fun z74 =>
    bnd (y4 + (((gI z59 (128 * (gR z59 1) + 16))).toInt64 * z74.1)) fun y4_79 =>
    k38 x1 x2 x3 y4_79 (x6 + (1 : Int32)) z74.2
def fX11_countRowsOfTwo_38 (n0 : Nat) : Int32 → Int32 → Int32 → Int64 → Int32 → Mem → Option (Int64 × Mem) := loopN (bX11_countRowsOfTwo_38 n0) (fun _ _ _ _ _ _ => none) n0
def fX11_countRowsOfTwo (n0 : Nat) (x1 : Int32) (M : Mem) : Option (Int64 × Mem) :=
  bnd (gI M 897) fun x2_7 =>
  (fX1_goOn n0 M).bind fun z12 =>
  bnd (gI z12 900) fun x3_22 =>
  (fX11_countRowsWithout n0 z12).bind fun z24 =>
  (fX11_countRowsOfOne n0 x1 z24.2).bind fun z29 =>
  bnd (z24.1 * z29.1) fun y4_33 =>
  fX11_countRowsOfTwo_38 n0 x1 x2_7 x3_22 y4_33 (0 : Int32) z29.2
theorem tbX11_countRowsOfTwo_38 (n0 : Nat) (hO : OKc p (rmL 6) s m args meth c LX D cy ad cX11_countRowsOfTwo RX11 7 6 (some .long)) (k38 : Int32 → Int32 → Int32 → Int64 → Int32 → Mem → Option (Int64 × Mem)) (hk38 : ∀ (x1 : Int32) (x2 : Int32) (x3 : Int32) (y4 : Int64) (x6 : Int32) (M : Mem), BL p l e (rmL 6) s m args below meth c LX D cy ad 7 (QL LX D cy ad) 38 [(0, .ref (ad 0)), (1, .int x1), (2, .int x2), (3, .int x3), (4, .long y4), (6, .int x6)] [] M (k38 x1 x2 x3 y4 x6 M)) (x1 : Int32) (x2 : Int32) (x3 : Int32) (y4 : Int64) (x6 : Int32) (M : Mem) : BL p l e (rmL 6) s m args below meth c LX D cy ad 7 (QL LX D cy ad) 38 [(0, .ref (ad 0)), (1, .int x1), (2, .int x2), (3, .int x3), (4, .long y4), (6, .int x6)] [] M (bX11_countRowsOfTwo_38 n0 k38 x1 x2 x3 y4 x6 M) := by
  unfold bX11_countRowsOfTwo_38
  refine b_iload hO dX11_countRowsOfTwo_38 5 rfl ?_
  refine b_aload_n hO dX11_countRowsOfTwo_40 0 rfl rfl ?_
  refine b_getR hO flX11_19 kLX_0 (id := 1) rfl rfl (rk := 9) rfl (by decide) dX11_countRowsOfTwo_41 (fun hg1 => ?_)
  refine b_get hO flX11_136 hg1 (v := .int (gI _ (128 * (gR M 1) + 1))) rfl dX11_countRowsOfTwo_44 ?_
  refine b_icmp_ge hO dX11_countRowsOfTwo_47 (tgt := 87) (by decide) ?_ ?_
  · refine b_lload hO dX11_countRowsOfTwo_87 4 rfl ?_
    exact b_lret hO dX11_countRowsOfTwo_89
  · refine b_aload_n hO dX11_countRowsOfTwo_50 0 rfl rfl ?_
    refine b_get hO flX11_40 kLX_0 (v := .ref (ad 7)) rfl dX11_countRowsOfTwo_51 ?_
    refine b_iload_n hO dX11_countRowsOfTwo_54 2 rfl rfl ?_
    refine b_iload hO dX11_countRowsOfTwo_55 5 rfl ?_
    refine b_iconst hO dX11_countRowsOfTwo_57 ic_i_0 ?_
    refine b_iload_n hO dX11_countRowsOfTwo_58 3 rfl rfl ?_
    refine b_callVV hO mdX1_hold mvX1_hold w952 (ci := 1) rfl rfl (by decide) kLX_7 (As := [.int _, .int _, .int _, .int _]) (st := []) (ctX1_hold n0 hO.2.2.2.2.2.2.1 _ _ _ _ _) (Nat.le_of_ble_eq_true rfl) rfl rfl (Nat.le_of_ble_eq_true rfl) dX11_countRowsOfTwo_59 (fun z59 => ?_)
    refine b_lload hO dX11_countRowsOfTwo_62 4 rfl ?_
    refine b_aload_n hO dX11_countRowsOfTwo_64 0 rfl rfl ?_
    refine b_getR hO flX11_19 kLX_0 (id := 1) rfl rfl (rk := 9) rfl (by decide) dX11_countRowsOfTwo_65 (fun hg2 => ?_)
    refine b_get hO flX11_346 hg2 (v := .int (gI _ (128 * (gR z59 1) + 16))) rfl dX11_countRowsOfTwo_68 ?_
    refine b_i2l hO dX11_countRowsOfTwo_71 ?_
    refine b_aload_n hO dX11_countRowsOfTwo_72 0 rfl rfl ?_
    refine b_iload_n hO dX11_countRowsOfTwo_73 1 rfl rfl ?_
    refine b_callVL hO mdX11_countRowsOfOne mvX11_countRowsOfOne w1037 (ci := 11) rfl rfl (by decide) kLX_0 (As := [.int _]) (st := [.long _, .long _]) (ctX11_countRowsOfOne n0 hO.2.2.2.2.2.2.1 _ _) (Nat.le_of_ble_eq_true rfl) rfl rfl (Nat.le_of_ble_eq_true rfl) dX11_countRowsOfTwo_74 (fun z74 => ?_)
    refine b_lmul hO dX11_countRowsOfTwo_77 ?_
    refine b_ladd hO dX11_countRowsOfTwo_78 ?_
    refine b_topL (fun y4_79 => ?_)
    refine b_lstore hO dX11_countRowsOfTwo_79 (by decide) (lv' := [(4, .long _), (0, .ref _), (1, .int _), (2, .int _), (3, .int _), (6, .int _)]) rfl ?_
    refine b_iinc hO dX11_countRowsOfTwo_81 5 rfl ic_i_1 (by decide) (lv' := [(6, .int _), (4, .long _), (0, .ref _), (1, .int _), (2, .int _), (3, .int _)]) rfl ?_
    refine b_goto hO dX11_countRowsOfTwo_84 (tgt := 38) (by decide) ?_
    refine b_sub [2, 3, 4, 5, 1, 0] rfl ?_
    exact hk38 _ _ _ _ _ _
theorem lX11_countRowsOfTwo_38 (n0 : Nat) (hO : OKc p (rmL 6) s m args meth c LX D cy ad cX11_countRowsOfTwo RX11 7 6 (some .long)) : ∀ (w : Nat) (x1 : Int32) (x2 : Int32) (x3 : Int32) (y4 : Int64) (x6 : Int32) (M : Mem), BL p l e (rmL 6) s m args below meth c LX D cy ad 7 (QL LX D cy ad) 38 [(0, .ref (ad 0)), (1, .int x1), (2, .int x2), (3, .int x3), (4, .long y4), (6, .int x6)] [] M (loopN (bX11_countRowsOfTwo_38 n0) (fun _ _ _ _ _ _ => none) w x1 x2 x3 y4 x6 M) := by
  intro w
  induction w with
  | zero =>
    intros
    exact b_none
  | succ w ih =>
    intro x1 x2 x3 y4 x6 M
    exact tbX11_countRowsOfTwo_38 n0 hO _ ih x1 x2 x3 y4 x6 M
theorem tfX11_countRowsOfTwo_38 (n0 : Nat) (hO : OKc p (rmL 6) s m args meth c LX D cy ad cX11_countRowsOfTwo RX11 7 6 (some .long)) (x1 : Int32) (x2 : Int32) (x3 : Int32) (y4 : Int64) (x6 : Int32) (M : Mem) : BL p l e (rmL 6) s m args below meth c LX D cy ad 7 (QL LX D cy ad) 38 [(0, .ref (ad 0)), (1, .int x1), (2, .int x2), (3, .int x3), (4, .long y4), (6, .int x6)] [] M (fX11_countRowsOfTwo_38 n0 x1 x2 x3 y4 x6 M) := lX11_countRowsOfTwo_38 n0 hO n0 x1 x2 x3 y4 x6 M
theorem tfX11_countRowsOfTwo (n0 : Nat) (hO : OKc p (rmL 6) s m args meth c LX D cy ad cX11_countRowsOfTwo RX11 7 6 (some .long)) (x1 : Int32) (M : Mem) : BL p l e (rmL 6) s m args below meth c LX D cy ad 7 (QL LX D cy ad) 0 [(0, .ref (ad 0)), (1, .int x1)] [] M (fX11_countRowsOfTwo n0 x1 M) := by
  unfold fX11_countRowsOfTwo
  refine b_aload_n hO dX11_countRowsOfTwo_0 0 rfl rfl ?_
  refine b_get hO flX11_40 kLX_0 (v := .ref (ad 7)) rfl dX11_countRowsOfTwo_1 ?_
  refine b_get hO flX11_355 kLX_7 (v := .int (gI _ 897)) rfl dX11_countRowsOfTwo_4 ?_
  refine b_topI (fun x2_7 => ?_)
  refine b_istore_n hO dX11_countRowsOfTwo_7 rfl (by decide) (lv' := [(2, .int _), (0, .ref _), (1, .int _)]) rfl ?_
  refine b_aload_n hO dX11_countRowsOfTwo_8 1 rfl rfl ?_
  refine b_get hO flX11_40 kLX_0 (v := .ref (ad 7)) rfl dX11_countRowsOfTwo_9 ?_
  refine b_callVV hO mdX1_goOn mvX1_goOn w1041 (ci := 1) rfl rfl (by decide) kLX_7 (As := []) (st := []) (ctX1_goOn n0 hO.2.2.2.2.2.2.1 _) (Nat.le_of_ble_eq_true rfl) rfl rfl (Nat.le_of_ble_eq_true rfl) dX11_countRowsOfTwo_12 (fun z12 => ?_)
  refine b_aload_n hO dX11_countRowsOfTwo_15 1 rfl rfl ?_
  refine b_get hO flX11_40 kLX_0 (v := .ref (ad 7)) rfl dX11_countRowsOfTwo_16 ?_
  refine b_get hO flX11_358 kLX_7 (v := .int (gI _ 900)) rfl dX11_countRowsOfTwo_19 ?_
  refine b_topI (fun x3_22 => ?_)
  refine b_istore_n hO dX11_countRowsOfTwo_22 rfl (by decide) (lv' := [(3, .int _), (2, .int _), (0, .ref _), (1, .int _)]) rfl ?_
  refine b_aload_n hO dX11_countRowsOfTwo_23 2 rfl rfl ?_
  refine b_callVL hO mdX11_countRowsWithout mvX11_countRowsWithout w1042 (ci := 11) rfl rfl (by decide) kLX_0 (As := []) (st := []) (ctX11_countRowsWithout n0 hO.2.2.2.2.2.2.1 _) (Nat.le_of_ble_eq_true rfl) rfl rfl (Nat.le_of_ble_eq_true rfl) dX11_countRowsOfTwo_24 (fun z24 => ?_)
  refine b_aload_n hO dX11_countRowsOfTwo_27 2 rfl rfl ?_
  refine b_iload_n hO dX11_countRowsOfTwo_28 3 rfl rfl ?_
  refine b_callVL hO mdX11_countRowsOfOne mvX11_countRowsOfOne w1037 (ci := 11) rfl rfl (by decide) kLX_0 (As := [.int _]) (st := [.long _]) (ctX11_countRowsOfOne n0 hO.2.2.2.2.2.2.1 _ _) (Nat.le_of_ble_eq_true rfl) rfl rfl (Nat.le_of_ble_eq_true rfl) dX11_countRowsOfTwo_29 (fun z29 => ?_)
  refine b_lmul hO dX11_countRowsOfTwo_32 ?_
  refine b_topL (fun y4_33 => ?_)
  refine b_lstore hO dX11_countRowsOfTwo_33 (by decide) (lv' := [(4, .long _), (3, .int _), (2, .int _), (0, .ref _), (1, .int _)]) rfl ?_
  refine b_iconst hO dX11_countRowsOfTwo_35 ic_i_0 ?_
  refine b_istore hO dX11_countRowsOfTwo_36 (by decide) (lv' := [(6, .int _), (4, .long _), (3, .int _), (2, .int _), (0, .ref _), (1, .int _)]) rfl ?_
  refine b_sub [4, 5, 3, 2, 1, 0] rfl ?_
  exact tfX11_countRowsOfTwo_38 n0 hO _ _ _ _ _ _
theorem ctX11_countRowsOfTwo (n0 : Nat) (hI : Inj LX ad) (x1 : Int32) (M : Mem) : CT l LX D cy ad yX11_countRowsOfTwo cX11_countRowsOfTwo 7 (some .long) 6 (QL LX D cy ad) [.ref (ad 0), .int x1] M (fX11_countRowsOfTwo n0 x1 M) :=
  CT.mk LXok hI (by decide) (Nat.le_of_ble_eq_true rfl) (fun hO => tfX11_countRowsOfTwo n0 hO x1 M)
/-! X11_odds -/
def fX11_odds (n0 : Nat) (x1 : Int32) (x2 : Int32) (x3 : Int32) (M : Mem) : Option (Int64 × Mem) :=
  (fX9_isCorner n0 (gR M 1) x1 M).bind fun z5 =>
  if z5.1 = 0 then
    some ((-1 : Int64), z5.2)
  else
    if (gI z5.2 (128 * (gR z5.2 1) + 1)) = 0 then
      some ((-1 : Int64), z5.2)
    else
      if x3 < (1 : Int32) then
        some ((-1 : Int64), z5.2)
      else
        if (2 : Int32) < x3 then
          some ((-1 : Int64), z5.2)
        else
          (fX11_isBeyond n0 x3 z5.2).bind fun z33 =>
          if z33.1 = 0 then
            if x2 < (-1 : Int32) then
              some ((-1 : Int64), z33.2)
            else
              if x2 ≤ (23 : Int32) then
                if x2 = (-1 : Int32) then
                  bnd (((100 : Int64) * ((gI z33.2 (128 * (gR z33.2 1) + 5))).toInt64) * ((gI z33.2 (128 * (gR z33.2 1) + 1))).toInt64) fun y4_84 =>
                  if x3 = (1 : Int32) then
                    some (y4_84, z33.2)
                  else
                    some ((y4_84 * y4_84), z33.2)
                else
                  (fX11_lookAt n0 x1 z33.2).bind fun z104 =>
                  if x3 = (1 : Int32) then
                    (fX11_countRowsOfOne n0 x2 z104).bind fun z114 =>
                    some (z114.1, z114.2)
                  else
                    (fX11_countRowsOfTwo n0 x2 z104).bind fun z122 =>
                    some (z122.1, z122.2)
              else
                some ((-1 : Int64), z33.2)
          else
            some ((-1 : Int64), z33.2)
theorem tfX11_odds (n0 : Nat) (hO : OKc p (rmL 7) s m args meth c LX D cy ad cX11_odds RX11 6 7 (some .long)) (x1 : Int32) (x2 : Int32) (x3 : Int32) (M : Mem) : BL p l e (rmL 7) s m args below meth c LX D cy ad 6 (QL LX D cy ad) 0 [(0, .ref (ad 0)), (1, .int x1), (2, .int x2), (3, .int x3)] [] M (fX11_odds n0 x1 x2 x3 M) := by
  unfold fX11_odds
  refine b_aload_n hO dX11_odds_0 0 rfl rfl ?_
  refine b_getR hO flX11_19 kLX_0 (id := 1) rfl rfl (rk := 9) rfl (by decide) dX11_odds_1 (fun hg1 => ?_)
  refine b_iload_n hO dX11_odds_4 1 rfl rfl ?_
  refine b_callVI hO mdX9_isCorner mvX9_isCorner w928 (ci := 9) rfl rfl (by decide) hg1 (As := [.int _]) (st := []) (ctX9_isCorner n0 _ hg1 hO.2.2.2.2.2.2.1 _ _) (Nat.le_of_ble_eq_true rfl) rfl rfl (Nat.le_of_ble_eq_true rfl) dX11_odds_5 (fun z5 => ?_)
  refine b_if_eq hO dX11_odds_8 (tgt := 39) (by decide) ?_ ?_
  · refine b_ldc2 hO w1035 dX11_odds_39 ?_
    exact b_lret hO dX11_odds_42
  · refine b_aload_n hO dX11_odds_11 0 rfl rfl ?_
    refine b_getR hO flX11_19 kLX_0 (id := 1) rfl rfl (rk := 9) rfl (by decide) dX11_odds_12 (fun hg2 => ?_)
    refine b_get hO flX11_136 hg2 (v := .int (gI _ (128 * (gR z5.2 1) + 1))) rfl dX11_odds_15 ?_
    refine b_if_eq hO dX11_odds_18 (tgt := 39) (by decide) ?_ ?_
    · refine b_ldc2 hO w1035 dX11_odds_39 ?_
      exact b_lret hO dX11_odds_42
    · refine b_iload_n hO dX11_odds_21 3 rfl rfl ?_
      refine b_iconst hO dX11_odds_22 ic_i_1 ?_
      refine b_icmp_lt hO dX11_odds_23 (tgt := 39) (by decide) ?_ ?_
      · refine b_ldc2 hO w1035 dX11_odds_39 ?_
        exact b_lret hO dX11_odds_42
      · refine b_iload_n hO dX11_odds_26 3 rfl rfl ?_
        refine b_iconst hO dX11_odds_27 ic_i_2 ?_
        refine b_icmp_gt hO dX11_odds_28 (tgt := 39) (by decide) ?_ ?_
        · refine b_ldc2 hO w1035 dX11_odds_39 ?_
          exact b_lret hO dX11_odds_42
        · refine b_aload_n hO dX11_odds_31 0 rfl rfl ?_
          refine b_iload_n hO dX11_odds_32 3 rfl rfl ?_
          refine b_callVI hO mdX11_isBeyond mvX11_isBeyond w962 (ci := 11) rfl rfl (by decide) kLX_0 (As := [.int _]) (st := []) (ctX11_isBeyond n0 hO.2.2.2.2.2.2.1 _ _) (Nat.le_of_ble_eq_true rfl) rfl rfl (Nat.le_of_ble_eq_true rfl) dX11_odds_33 (fun z33 => ?_)
          refine b_if_eq hO dX11_odds_36 (tgt := 43) (by decide) ?_ ?_
          · refine b_iload_n hO dX11_odds_43 2 rfl rfl ?_
            refine b_iconst hO dX11_odds_44 ic_i_m1 ?_
            refine b_icmp_lt hO dX11_odds_45 (tgt := 54) (by decide) ?_ ?_
            · refine b_ldc2 hO w1035 dX11_odds_54 ?_
              exact b_lret hO dX11_odds_57
            · refine b_iload_n hO dX11_odds_48 2 rfl rfl ?_
              refine b_bipush hO dX11_odds_49 ic_b_23 ?_
              refine b_icmp_le hO dX11_odds_51 (tgt := 58) (by decide) ?_ ?_
              · refine b_iload_n hO dX11_odds_58 2 rfl rfl ?_
                refine b_iconst hO dX11_odds_59 ic_i_m1 ?_
                refine b_icmp_ne hO dX11_odds_60 (tgt := 102) (by decide) ?_ ?_
                · refine b_aload_n hO dX11_odds_102 0 rfl rfl ?_
                  refine b_iload_n hO dX11_odds_103 1 rfl rfl ?_
                  refine b_callVV hO mdX11_lookAt mvX11_lookAt w948 (ci := 11) rfl rfl (by decide) kLX_0 (As := [.int _]) (st := []) (ctX11_lookAt n0 hO.2.2.2.2.2.2.1 _ _) (Nat.le_of_ble_eq_true rfl) rfl rfl (Nat.le_of_ble_eq_true rfl) dX11_odds_104 (fun z104 => ?_)
                  refine b_iload_n hO dX11_odds_107 3 rfl rfl ?_
                  refine b_iconst hO dX11_odds_108 ic_i_1 ?_
                  refine b_icmp_ne hO dX11_odds_109 (tgt := 120) (by decide) ?_ ?_
                  · refine b_aload_n hO dX11_odds_120 0 rfl rfl ?_
                    refine b_iload_n hO dX11_odds_121 2 rfl rfl ?_
                    refine b_callVL hO mdX11_countRowsOfTwo mvX11_countRowsOfTwo w1046 (ci := 11) rfl rfl (by decide) kLX_0 (As := [.int _]) (st := []) (ctX11_countRowsOfTwo n0 hO.2.2.2.2.2.2.1 _ _) (Nat.le_of_ble_eq_true rfl) rfl rfl (Nat.le_of_ble_eq_true rfl) dX11_odds_122 (fun z122 => ?_)
                    exact b_lret hO dX11_odds_125
                  · refine b_aload_n hO dX11_odds_112 0 rfl rfl ?_
                    refine b_iload_n hO dX11_odds_113 2 rfl rfl ?_
                    refine b_callVL hO mdX11_countRowsOfOne mvX11_countRowsOfOne w1037 (ci := 11) rfl rfl (by decide) kLX_0 (As := [.int _]) (st := []) (ctX11_countRowsOfOne n0 hO.2.2.2.2.2.2.1 _ _) (Nat.le_of_ble_eq_true rfl) rfl rfl (Nat.le_of_ble_eq_true rfl) dX11_odds_114 (fun z114 => ?_)
                    refine b_goto hO dX11_odds_117 (tgt := 125) (by decide) ?_
                    exact b_lret hO dX11_odds_125
                · refine b_ldc2 hO w1036 dX11_odds_63 ?_
                  refine b_aload_n hO dX11_odds_66 0 rfl rfl ?_
                  refine b_getR hO flX11_19 kLX_0 (id := 1) rfl rfl (rk := 9) rfl (by decide) dX11_odds_67 (fun hg3 => ?_)
                  refine b_get hO flX11_139 hg3 (v := .int (gI _ (128 * (gR z33.2 1) + 5))) rfl dX11_odds_70 ?_
                  refine b_i2l hO dX11_odds_73 ?_
                  refine b_lmul hO dX11_odds_74 ?_
                  refine b_aload_n hO dX11_odds_75 0 rfl rfl ?_
                  refine b_getR hO flX11_19 kLX_0 (id := 1) rfl rfl (rk := 9) rfl (by decide) dX11_odds_76 (fun hg4 => ?_)
                  refine b_get hO flX11_136 hg4 (v := .int (gI _ (128 * (gR z33.2 1) + 1))) rfl dX11_odds_79 ?_
                  refine b_i2l hO dX11_odds_82 ?_
                  refine b_lmul hO dX11_odds_83 ?_
                  refine b_topL (fun y4_84 => ?_)
                  refine b_lstore hO dX11_odds_84 (by decide) (lv' := [(4, .long _), (0, .ref _), (1, .int _), (2, .int _), (3, .int _)]) rfl ?_
                  refine b_iload_n hO dX11_odds_86 4 rfl rfl ?_
                  refine b_iconst hO dX11_odds_87 ic_i_1 ?_
                  refine b_icmp_ne hO dX11_odds_88 (tgt := 96) (by decide) ?_ ?_
                  · refine b_lload hO dX11_odds_96 0 rfl ?_
                    refine b_lload hO dX11_odds_98 0 rfl ?_
                    refine b_lmul hO dX11_odds_100 ?_
                    exact b_lret hO dX11_odds_101
                  · refine b_lload hO dX11_odds_91 0 rfl ?_
                    refine b_goto hO dX11_odds_93 (tgt := 101) (by decide) ?_
                    exact b_lret hO dX11_odds_101
              · refine b_ldc2 hO w1035 dX11_odds_54 ?_
                exact b_lret hO dX11_odds_57
          · refine b_ldc2 hO w1035 dX11_odds_39 ?_
            exact b_lret hO dX11_odds_42
theorem ctX11_odds (n0 : Nat) (hI : Inj LX ad) (x1 : Int32) (x2 : Int32) (x3 : Int32) (M : Mem) : CT l LX D cy ad yX11_odds cX11_odds 6 (some .long) 7 (QL LX D cy ad) [.ref (ad 0), .int x1, .int x2, .int x3] M (fX11_odds n0 x1 x2 x3 M) :=
  CT.mk LXok hI (by decide) (Nat.le_of_ble_eq_true rfl) (fun hO => tfX11_odds n0 hO x1 x2 x3 M)
/-! X11_way -/
def fX11_way (n0 : Nat) (x1 : Int32) (x2 : Int32) (M : Mem) : Option (Int32 × Mem) :=
  (fX9_isCorner n0 (gR M 1) x1 M).bind fun z5 =>
  if z5.1 = 0 then
    some ((-1 : Int32), z5.2)
  else
    (fX9_isCorner n0 (gR z5.2 1) x2 z5.2).bind fun z16 =>
    if z16.1 = 0 then
      some ((-1 : Int32), z16.2)
    else
      (fX10_stepsOf n0 (gR z16.2 1) x1 x2 z16.2).bind fun z34 =>
      some (z34.1, z34.2)
theorem tfX11_way (n0 : Nat) (hO : OKc p (rmL 3) s m args meth c LX D cy ad cX11_way RX11 3 3 (some .int)) (x1 : Int32) (x2 : Int32) (M : Mem) : BL p l e (rmL 3) s m args below meth c LX D cy ad 3 (QI LX D cy ad) 0 [(0, .ref (ad 0)), (1, .int x1), (2, .int x2)] [] M (fX11_way n0 x1 x2 M) := by
  unfold fX11_way
  refine b_aload_n hO dX11_way_0 0 rfl rfl ?_
  refine b_getR hO flX11_19 kLX_0 (id := 1) rfl rfl (rk := 9) rfl (by decide) dX11_way_1 (fun hg1 => ?_)
  refine b_iload_n hO dX11_way_4 1 rfl rfl ?_
  refine b_callVI hO mdX9_isCorner mvX9_isCorner w928 (ci := 9) rfl rfl (by decide) hg1 (As := [.int _]) (st := []) (ctX9_isCorner n0 _ hg1 hO.2.2.2.2.2.2.1 _ _) (Nat.le_of_ble_eq_true rfl) rfl rfl (Nat.le_of_ble_eq_true rfl) dX11_way_5 (fun z5 => ?_)
  refine b_if_eq hO dX11_way_8 (tgt := 22) (by decide) ?_ ?_
  · refine b_iconst hO dX11_way_22 ic_i_m1 ?_
    exact b_iret hO dX11_way_23
  · refine b_aload_n hO dX11_way_11 0 rfl rfl ?_
    refine b_getR hO flX11_19 kLX_0 (id := 1) rfl rfl (rk := 9) rfl (by decide) dX11_way_12 (fun hg2 => ?_)
    refine b_iload_n hO dX11_way_15 2 rfl rfl ?_
    refine b_callVI hO mdX9_isCorner mvX9_isCorner w928 (ci := 9) rfl rfl (by decide) hg2 (As := [.int _]) (st := []) (ctX9_isCorner n0 _ hg2 hO.2.2.2.2.2.2.1 _ _) (Nat.le_of_ble_eq_true rfl) rfl rfl (Nat.le_of_ble_eq_true rfl) dX11_way_16 (fun z16 => ?_)
    refine b_if_ne hO dX11_way_19 (tgt := 24) (by decide) ?_ ?_
    · refine b_aload_n hO dX11_way_24 0 rfl rfl ?_
      refine b_get hO flX11_61 kLX_0 (v := .ref (ad 18)) rfl dX11_way_25 ?_
      refine b_aload_n hO dX11_way_28 0 rfl rfl ?_
      refine b_getR hO flX11_19 kLX_0 (id := 1) rfl rfl (rk := 9) rfl (by decide) dX11_way_29 (fun hg3 => ?_)
      refine b_iload_n hO dX11_way_32 1 rfl rfl ?_
      refine b_iload_n hO dX11_way_33 2 rfl rfl ?_
      refine b_callVI hO mdX10_stepsOf mvX10_stepsOf w1054 (ci := 10) rfl rfl (by decide) kLX_18 (As := [.ref _, .int _, .int _]) (st := []) (ctX10_stepsOf n0 _ hg3 hO.2.2.2.2.2.2.1 _ _ _) (Nat.le_of_ble_eq_true rfl) rfl rfl (Nat.le_of_ble_eq_true rfl) dX11_way_34 (fun z34 => ?_)
      exact b_iret hO dX11_way_37
    · refine b_iconst hO dX11_way_22 ic_i_m1 ?_
      exact b_iret hO dX11_way_23
theorem ctX11_way (n0 : Nat) (hI : Inj LX ad) (x1 : Int32) (x2 : Int32) (M : Mem) : CT l LX D cy ad yX11_way cX11_way 3 (some .int) 3 (QI LX D cy ad) [.ref (ad 0), .int x1, .int x2] M (fX11_way n0 x1 x2 M) :=
  CT.mk LXok hI (by decide) (Nat.le_of_ble_eq_true rfl) (fun hO => tfX11_way n0 hO x1 x2 M)
/-! X11_arrive -/
def fX11_arrive (n0 : Nat) (x1 : Int32) (x2 : Int32) (M : Mem) : Option (Int32 × Mem) :=
  (fX9_isCorner n0 (gR M 1) x1 M).bind fun z5 =>
  if z5.1 = 0 then
    some ((-1 : Int32), z5.2)
  else
    (fX9_isCorner n0 (gR z5.2 1) x2 z5.2).bind fun z16 =>
    if z16.1 = 0 then
      some ((-1 : Int32), z16.2)
    else
      (fX10_stepsOf n0 (gR z16.2 1) x1 x2 z16.2).bind fun z34 =>
      if z34.1 = (-1 : Int32) then
        some ((-1 : Int32), z34.2)
      else
        if (60 : Int32) < z34.1 then
          some ((-1 : Int32), z34.2)
        else
          (fX11_isBeyond n0 z34.1 z34.2).bind fun z51 =>
          if z51.1 = 0 then
            (fX11_foresee n0 26 x2 z34.1 z51.2).bind fun z66 =>
            if oob z34.1 61 then none else
            some ((gA z66.2 26 (Int32.toNatClampNeg z34.1)), z66.2)
          else
            some ((-1 : Int32), z51.2)
theorem tfX11_arrive (n0 : Nat) (hO : OKc p (rmL 7) s m args meth c LX D cy ad cX11_arrive RX11 4 7 (some .int)) (x1 : Int32) (x2 : Int32) (M : Mem) : BL p l e (rmL 7) s m args below meth c LX D cy ad 4 (QI LX D cy ad) 0 [(0, .ref (ad 0)), (1, .int x1), (2, .int x2)] [] M (fX11_arrive n0 x1 x2 M) := by
  unfold fX11_arrive
  refine b_aload_n hO dX11_arrive_0 0 rfl rfl ?_
  refine b_getR hO flX11_19 kLX_0 (id := 1) rfl rfl (rk := 9) rfl (by decide) dX11_arrive_1 (fun hg1 => ?_)
  refine b_iload_n hO dX11_arrive_4 1 rfl rfl ?_
  refine b_callVI hO mdX9_isCorner mvX9_isCorner w928 (ci := 9) rfl rfl (by decide) hg1 (As := [.int _]) (st := []) (ctX9_isCorner n0 _ hg1 hO.2.2.2.2.2.2.1 _ _) (Nat.le_of_ble_eq_true rfl) rfl rfl (Nat.le_of_ble_eq_true rfl) dX11_arrive_5 (fun z5 => ?_)
  refine b_if_eq hO dX11_arrive_8 (tgt := 22) (by decide) ?_ ?_
  · refine b_iconst hO dX11_arrive_22 ic_i_m1 ?_
    exact b_iret hO dX11_arrive_23
  · refine b_aload_n hO dX11_arrive_11 0 rfl rfl ?_
    refine b_getR hO flX11_19 kLX_0 (id := 1) rfl rfl (rk := 9) rfl (by decide) dX11_arrive_12 (fun hg2 => ?_)
    refine b_iload_n hO dX11_arrive_15 2 rfl rfl ?_
    refine b_callVI hO mdX9_isCorner mvX9_isCorner w928 (ci := 9) rfl rfl (by decide) hg2 (As := [.int _]) (st := []) (ctX9_isCorner n0 _ hg2 hO.2.2.2.2.2.2.1 _ _) (Nat.le_of_ble_eq_true rfl) rfl rfl (Nat.le_of_ble_eq_true rfl) dX11_arrive_16 (fun z16 => ?_)
    refine b_if_ne hO dX11_arrive_19 (tgt := 24) (by decide) ?_ ?_
    · refine b_aload_n hO dX11_arrive_24 0 rfl rfl ?_
      refine b_get hO flX11_61 kLX_0 (v := .ref (ad 18)) rfl dX11_arrive_25 ?_
      refine b_aload_n hO dX11_arrive_28 0 rfl rfl ?_
      refine b_getR hO flX11_19 kLX_0 (id := 1) rfl rfl (rk := 9) rfl (by decide) dX11_arrive_29 (fun hg3 => ?_)
      refine b_iload_n hO dX11_arrive_32 1 rfl rfl ?_
      refine b_iload_n hO dX11_arrive_33 2 rfl rfl ?_
      refine b_callVI hO mdX10_stepsOf mvX10_stepsOf w1054 (ci := 10) rfl rfl (by decide) kLX_18 (As := [.ref _, .int _, .int _]) (st := []) (ctX10_stepsOf n0 _ hg3 hO.2.2.2.2.2.2.1 _ _ _) (Nat.le_of_ble_eq_true rfl) rfl rfl (Nat.le_of_ble_eq_true rfl) dX11_arrive_34 (fun z34 => ?_)
      refine b_istore_n hO dX11_arrive_37 rfl (by decide) (lv' := [(3, .int _), (0, .ref _), (1, .int _), (2, .int _)]) rfl ?_
      refine b_iload_n hO dX11_arrive_38 0 rfl rfl ?_
      refine b_iconst hO dX11_arrive_39 ic_i_m1 ?_
      refine b_icmp_eq hO dX11_arrive_40 (tgt := 57) (by decide) ?_ ?_
      · refine b_iconst hO dX11_arrive_57 ic_i_m1 ?_
        exact b_iret hO dX11_arrive_58
      · refine b_iload_n hO dX11_arrive_43 0 rfl rfl ?_
        refine b_bipush hO dX11_arrive_44 ic_b_60 ?_
        refine b_icmp_gt hO dX11_arrive_46 (tgt := 57) (by decide) ?_ ?_
        · refine b_iconst hO dX11_arrive_57 ic_i_m1 ?_
          exact b_iret hO dX11_arrive_58
        · refine b_aload_n hO dX11_arrive_49 1 rfl rfl ?_
          refine b_iload_n hO dX11_arrive_50 0 rfl rfl ?_
          refine b_callVI hO mdX11_isBeyond mvX11_isBeyond w962 (ci := 11) rfl rfl (by decide) kLX_0 (As := [.int _]) (st := []) (ctX11_isBeyond n0 hO.2.2.2.2.2.2.1 _ _) (Nat.le_of_ble_eq_true rfl) rfl rfl (Nat.le_of_ble_eq_true rfl) dX11_arrive_51 (fun z51 => ?_)
          refine b_if_eq hO dX11_arrive_54 (tgt := 59) (by decide) ?_ ?_
          · refine b_aload_n hO dX11_arrive_59 1 rfl rfl ?_
            refine b_iload_n hO dX11_arrive_60 3 rfl rfl ?_
            refine b_aload_n hO dX11_arrive_61 1 rfl rfl ?_
            refine b_get hO flX11_72 kLX_0 (v := .ref (ad 26)) rfl dX11_arrive_62 ?_
            refine b_iload_n hO dX11_arrive_65 0 rfl rfl ?_
            refine b_callVI hO mdX11_foresee mvX11_foresee w966 (ci := 11) rfl rfl (by decide) kLX_0 (As := [.int _, .ref _, .int _]) (st := []) (ctX11_foresee n0 _ kLX_26 hO.2.2.2.2.2.2.1 _ _ _) (Nat.le_of_ble_eq_true rfl) rfl rfl (Nat.le_of_ble_eq_true rfl) dX11_arrive_66 (fun z66 => ?_)
            refine b_pop hO dX11_arrive_69 rfl ?_
            refine b_aload_n hO dX11_arrive_70 1 rfl rfl ?_
            refine b_get hO flX11_72 kLX_0 (v := .ref (ad 26)) rfl dX11_arrive_71 ?_
            refine b_iload_n hO dX11_arrive_74 0 rfl rfl ?_
            refine b_iald hO kLX_26 (n := 61) rfl dX11_arrive_75 ?_
            exact b_iret hO dX11_arrive_76
          · refine b_iconst hO dX11_arrive_57 ic_i_m1 ?_
            exact b_iret hO dX11_arrive_58
    · refine b_iconst hO dX11_arrive_22 ic_i_m1 ?_
      exact b_iret hO dX11_arrive_23
theorem ctX11_arrive (n0 : Nat) (hI : Inj LX ad) (x1 : Int32) (x2 : Int32) (M : Mem) : CT l LX D cy ad yX11_arrive cX11_arrive 4 (some .int) 7 (QI LX D cy ad) [.ref (ad 0), .int x1, .int x2] M (fX11_arrive n0 x1 x2 M) :=
  CT.mk LXok hI (by decide) (Nat.le_of_ble_eq_true rfl) (fun hO => tfX11_arrive n0 hO x1 x2 M)
/-! X11_early -/
def fX11_early_73 (n0 : Nat) (k39 : Int32 → Int32 → Int32 → Mem → Option (Int32 × Mem)) (x1 : Int32) (x2 : Int32) (x3 : Int32) (M : Mem) : Option (Int32 × Mem) :=
  k39 x1 x2 (x3 + (1 : Int32)) M
def bX11_early_39 (n0 : Nat) (k39 : Int32 → Int32 → Int32 → Mem → Option (Int32 × Mem)) (x1 : Int32) (x2 : Int32) (x3 : Int32) (M : Mem) : Option (Int32 × Mem) :=
  if x2 < x3 then
    some ((-1 : Int32), M)
  else
    (fX10_canBeAt n0 x1 x3 M).bind fun z50 =>
    if z50.1 = 0 then
      fX11_early_73 n0 k39 x1 x2 x3 z50.2
    else
      if oob x3 61 then none else
      if oob (0 : Int32) 61 then none else
      if (gA z50.2 26 (Int32.toNatClampNeg (0 : Int32))) ≤ (gA z50.2 26 (Int32.toNatClampNeg x3)) then
        fX11_early_73 n0 k39 x1 x2 x3 z50.2
      else
        some (x3, z50.2)
def fX11_early_39 (n0 : Nat) : Int32 → Int32 → Int32 → Mem → Option (Int32 × Mem) := loopN (bX11_early_39 n0) (fun _ _ _ _ => none) n0
def fX11_early (n0 : Nat) (x1 : Int32) (M : Mem) : Option (Int32 × Mem) :=
  (fX9_isCorner n0 (gR M 1) x1 M).bind fun z5 =>
  if z5.1 = 0 then
    some ((-1 : Int32), z5.2)
  else
    (fX11_foresee n0 26 x1 (60 : Int32) z5.2).bind fun z21 =>
    (fX10_goOutFrom n0 (gR z21.2 1) x1 z21.2).bind fun z34 =>
    fX11_early_39 n0 x1 z21.1 (1 : Int32) z34
theorem tfX11_early_73 (n0 : Nat) (hO : OKc p (rmL 7) s m args meth c LX D cy ad cX11_early RX11 4 7 (some .int)) (k39 : Int32 → Int32 → Int32 → Mem → Option (Int32 × Mem)) (hk39 : ∀ (x1 : Int32) (x2 : Int32) (x3 : Int32) (M : Mem), BL p l e (rmL 7) s m args below meth c LX D cy ad 4 (QI LX D cy ad) 39 [(0, .ref (ad 0)), (1, .int x1), (2, .int x2), (3, .int x3)] [] M (k39 x1 x2 x3 M)) (x1 : Int32) (x2 : Int32) (x3 : Int32) (M : Mem) : BL p l e (rmL 7) s m args below meth c LX D cy ad 4 (QI LX D cy ad) 73 [(0, .ref (ad 0)), (1, .int x1), (2, .int x2), (3, .int x3)] [] M (fX11_early_73 n0 k39 x1 x2 x3 M) := by
  unfold fX11_early_73
  refine b_iinc hO dX11_early_73 3 rfl ic_i_1 (by decide) (lv' := [(3, .int _), (0, .ref _), (1, .int _), (2, .int _)]) rfl ?_
  refine b_goto hO dX11_early_76 (tgt := 39) (by decide) ?_
  refine b_sub [1, 2, 3, 0] rfl ?_
  exact hk39 _ _ _ _
theorem tbX11_early_39 (n0 : Nat) (hO : OKc p (rmL 7) s m args meth c LX D cy ad cX11_early RX11 4 7 (some .int)) (k39 : Int32 → Int32 → Int32 → Mem → Option (Int32 × Mem)) (hk39 : ∀ (x1 : Int32) (x2 : Int32) (x3 : Int32) (M : Mem), BL p l e (rmL 7) s m args below meth c LX D cy ad 4 (QI LX D cy ad) 39 [(0, .ref (ad 0)), (1, .int x1), (2, .int x2), (3, .int x3)] [] M (k39 x1 x2 x3 M)) (x1 : Int32) (x2 : Int32) (x3 : Int32) (M : Mem) : BL p l e (rmL 7) s m args below meth c LX D cy ad 4 (QI LX D cy ad) 39 [(0, .ref (ad 0)), (1, .int x1), (2, .int x2), (3, .int x3)] [] M (bX11_early_39 n0 k39 x1 x2 x3 M) := by
  unfold bX11_early_39
  refine b_iload_n hO dX11_early_39 3 rfl rfl ?_
  refine b_iload_n hO dX11_early_40 2 rfl rfl ?_
  refine b_icmp_gt hO dX11_early_41 (tgt := 79) (by decide) ?_ ?_
  · refine b_iconst hO dX11_early_79 ic_i_m1 ?_
    exact b_iret hO dX11_early_80
  · refine b_aload_n hO dX11_early_44 0 rfl rfl ?_
    refine b_get hO flX11_61 kLX_0 (v := .ref (ad 18)) rfl dX11_early_45 ?_
    refine b_iload_n hO dX11_early_48 1 rfl rfl ?_
    refine b_iload_n hO dX11_early_49 3 rfl rfl ?_
    refine b_callVI hO mdX10_canBeAt mvX10_canBeAt w1080 (ci := 10) rfl rfl (by decide) kLX_18 (As := [.int _, .int _]) (st := []) (ctX10_canBeAt n0 hO.2.2.2.2.2.2.1 _ _ _) (Nat.le_of_ble_eq_true rfl) rfl rfl (Nat.le_of_ble_eq_true rfl) dX11_early_50 (fun z50 => ?_)
    refine b_if_eq hO dX11_early_53 (tgt := 73) (by decide) ?_ ?_
    · exact tfX11_early_73 n0 hO k39 hk39 _ _ _ _
    · refine b_aload_n hO dX11_early_56 0 rfl rfl ?_
      refine b_get hO flX11_72 kLX_0 (v := .ref (ad 26)) rfl dX11_early_57 ?_
      refine b_iload_n hO dX11_early_60 3 rfl rfl ?_
      refine b_iald hO kLX_26 (n := 61) rfl dX11_early_61 ?_
      refine b_aload_n hO dX11_early_62 0 rfl rfl ?_
      refine b_get hO flX11_72 kLX_0 (v := .ref (ad 26)) rfl dX11_early_63 ?_
      refine b_iconst hO dX11_early_66 ic_i_0 ?_
      refine b_iald hO kLX_26 (n := 61) rfl dX11_early_67 ?_
      refine b_icmp_ge hO dX11_early_68 (tgt := 73) (by decide) ?_ ?_
      · exact tfX11_early_73 n0 hO k39 hk39 _ _ _ _
      · refine b_iload_n hO dX11_early_71 3 rfl rfl ?_
        exact b_iret hO dX11_early_72
theorem lX11_early_39 (n0 : Nat) (hO : OKc p (rmL 7) s m args meth c LX D cy ad cX11_early RX11 4 7 (some .int)) : ∀ (w : Nat) (x1 : Int32) (x2 : Int32) (x3 : Int32) (M : Mem), BL p l e (rmL 7) s m args below meth c LX D cy ad 4 (QI LX D cy ad) 39 [(0, .ref (ad 0)), (1, .int x1), (2, .int x2), (3, .int x3)] [] M (loopN (bX11_early_39 n0) (fun _ _ _ _ => none) w x1 x2 x3 M) := by
  intro w
  induction w with
  | zero =>
    intros
    exact b_none
  | succ w ih =>
    intro x1 x2 x3 M
    exact tbX11_early_39 n0 hO _ ih x1 x2 x3 M
theorem tfX11_early_39 (n0 : Nat) (hO : OKc p (rmL 7) s m args meth c LX D cy ad cX11_early RX11 4 7 (some .int)) (x1 : Int32) (x2 : Int32) (x3 : Int32) (M : Mem) : BL p l e (rmL 7) s m args below meth c LX D cy ad 4 (QI LX D cy ad) 39 [(0, .ref (ad 0)), (1, .int x1), (2, .int x2), (3, .int x3)] [] M (fX11_early_39 n0 x1 x2 x3 M) := lX11_early_39 n0 hO n0 x1 x2 x3 M
theorem tfX11_early (n0 : Nat) (hO : OKc p (rmL 7) s m args meth c LX D cy ad cX11_early RX11 4 7 (some .int)) (x1 : Int32) (M : Mem) : BL p l e (rmL 7) s m args below meth c LX D cy ad 4 (QI LX D cy ad) 0 [(0, .ref (ad 0)), (1, .int x1)] [] M (fX11_early n0 x1 M) := by
  unfold fX11_early
  refine b_aload_n hO dX11_early_0 0 rfl rfl ?_
  refine b_getR hO flX11_19 kLX_0 (id := 1) rfl rfl (rk := 9) rfl (by decide) dX11_early_1 (fun hg1 => ?_)
  refine b_iload_n hO dX11_early_4 1 rfl rfl ?_
  refine b_callVI hO mdX9_isCorner mvX9_isCorner w928 (ci := 9) rfl rfl (by decide) hg1 (As := [.int _]) (st := []) (ctX9_isCorner n0 _ hg1 hO.2.2.2.2.2.2.1 _ _) (Nat.le_of_ble_eq_true rfl) rfl rfl (Nat.le_of_ble_eq_true rfl) dX11_early_5 (fun z5 => ?_)
  refine b_if_ne hO dX11_early_8 (tgt := 13) (by decide) ?_ ?_
  · refine b_aload_n hO dX11_early_13 0 rfl rfl ?_
    refine b_iload_n hO dX11_early_14 1 rfl rfl ?_
    refine b_aload_n hO dX11_early_15 0 rfl rfl ?_
    refine b_get hO flX11_72 kLX_0 (v := .ref (ad 26)) rfl dX11_early_16 ?_
    refine b_bipush hO dX11_early_19 ic_b_60 ?_
    refine b_callVI hO mdX11_foresee mvX11_foresee w966 (ci := 11) rfl rfl (by decide) kLX_0 (As := [.int _, .ref _, .int _]) (st := []) (ctX11_foresee n0 _ kLX_26 hO.2.2.2.2.2.2.1 _ _ _) (Nat.le_of_ble_eq_true rfl) rfl rfl (Nat.le_of_ble_eq_true rfl) dX11_early_21 (fun z21 => ?_)
    refine b_istore_n hO dX11_early_24 rfl (by decide) (lv' := [(2, .int _), (0, .ref _), (1, .int _)]) rfl ?_
    refine b_aload_n hO dX11_early_25 1 rfl rfl ?_
    refine b_get hO flX11_61 kLX_0 (v := .ref (ad 18)) rfl dX11_early_26 ?_
    refine b_aload_n hO dX11_early_29 1 rfl rfl ?_
    refine b_getR hO flX11_19 kLX_0 (id := 1) rfl rfl (rk := 9) rfl (by decide) dX11_early_30 (fun hg2 => ?_)
    refine b_iload_n hO dX11_early_33 2 rfl rfl ?_
    refine b_callVV hO mdX10_goOutFrom mvX10_goOutFrom w1073 (ci := 10) rfl rfl (by decide) kLX_18 (As := [.ref _, .int _]) (st := []) (ctX10_goOutFrom n0 _ hg2 hO.2.2.2.2.2.2.1 _ _) (Nat.le_of_ble_eq_true rfl) rfl rfl (Nat.le_of_ble_eq_true rfl) dX11_early_34 (fun z34 => ?_)
    refine b_iconst hO dX11_early_37 ic_i_1 ?_
    refine b_istore_n hO dX11_early_38 rfl (by decide) (lv' := [(3, .int _), (2, .int _), (0, .ref _), (1, .int _)]) rfl ?_
    refine b_sub [2, 3, 1, 0] rfl ?_
    exact tfX11_early_39 n0 hO _ _ _ _
  · refine b_iconst hO dX11_early_11 ic_i_m1 ?_
    exact b_iret hO dX11_early_12
theorem ctX11_early (n0 : Nat) (hI : Inj LX ad) (x1 : Int32) (M : Mem) : CT l LX D cy ad yX11_early cX11_early 4 (some .int) 7 (QI LX D cy ad) [.ref (ad 0), .int x1] M (fX11_early n0 x1 M) :=
  CT.mk LXok hI (by decide) (Nat.le_of_ble_eq_true rfl) (fun hO => tfX11_early n0 hO x1 M)
/-! X11_see -/
def fX11_see (n0 : Nat) (M : Mem) : Option (Int32 × Mem) :=
  (fX5_read n0 (gR M 1) M).bind fun z12 =>
  bnd (sI z12.2 641 (0 : Int32)) fun M21 =>
  if z12.1 = 0 then
    (fX11_refuse n0 (5 : Int32) M21).bind fun z40 =>
    some (z40.1, z40.2)
  else
    some ((gI M21 2688), M21)
theorem tfX11_see (n0 : Nat) (hO : OKc p (rmL 3) s m args meth c LX D cy ad cX11_see RX11 2 3 (some .int)) (M : Mem) : BL p l e (rmL 3) s m args below meth c LX D cy ad 2 (QI LX D cy ad) 0 [(0, .ref (ad 0))] [] M (fX11_see n0 M) := by
  unfold fX11_see
  refine b_aload_n hO dX11_see_0 0 rfl rfl ?_
  refine b_get hO flX11_68 kLX_0 (v := .ref (ad 21)) rfl dX11_see_1 ?_
  refine b_aload_n hO dX11_see_4 0 rfl rfl ?_
  refine b_get hO flX11_12 kLX_0 (v := .ref (ad 5)) rfl dX11_see_5 ?_
  refine b_aload_n hO dX11_see_8 0 rfl rfl ?_
  refine b_getR hO flX11_19 kLX_0 (id := 1) rfl rfl (rk := 9) rfl (by decide) dX11_see_9 (fun hg1 => ?_)
  refine b_callVI hO mdX5_read mvX5_read w1088 (ci := 5) rfl rfl (by decide) kLX_21 (As := [.ref _, .ref _]) (st := []) (ctX5_read n0 _ hg1 hO.2.2.2.2.2.2.1 _) (Nat.le_of_ble_eq_true rfl) rfl rfl (Nat.le_of_ble_eq_true rfl) dX11_see_12 (fun z12 => ?_)
  refine b_istore_n hO dX11_see_15 rfl (by decide) (lv' := [(1, .int _), (0, .ref _)]) rfl ?_
  refine b_aload_n hO dX11_see_16 1 rfl rfl ?_
  refine b_get hO flX11_12 kLX_0 (v := .ref (ad 5)) rfl dX11_see_17 ?_
  refine b_iconst hO dX11_see_20 ic_i_0 ?_
  refine b_putI hO flX11_116 kLX_5 rfl rfl rfl (id := 641) rfl dX11_see_21 ?_
  refine b_bnd (fun M21 => ?_)
  refine b_iload_n hO dX11_see_24 0 rfl rfl ?_
  refine b_if_eq hO dX11_see_25 (tgt := 38) (by decide) ?_ ?_
  · refine b_aload_n hO dX11_see_38 1 rfl rfl ?_
    refine b_iconst hO dX11_see_39 ic_i_5 ?_
    refine b_callVI hO mdX11_refuse mvX11_refuse w671 (ci := 11) rfl rfl (by decide) kLX_0 (As := [.int _]) (st := []) (ctX11_refuse n0 hO.2.2.2.2.2.2.1 _ _) (Nat.le_of_ble_eq_true rfl) rfl rfl (Nat.le_of_ble_eq_true rfl) dX11_see_40 (fun z40 => ?_)
    exact b_iret hO dX11_see_43
  · refine b_aload_n hO dX11_see_28 1 rfl rfl ?_
    refine b_get hO flX11_68 kLX_0 (v := .ref (ad 21)) rfl dX11_see_29 ?_
    refine b_get hO flX11_161 kLX_21 (v := .int (gI _ 2688)) rfl dX11_see_32 ?_
    refine b_goto hO dX11_see_35 (tgt := 43) (by decide) ?_
    exact b_iret hO dX11_see_43
theorem ctX11_see (n0 : Nat) (hI : Inj LX ad) (M : Mem) : CT l LX D cy ad yX11_see cX11_see 2 (some .int) 3 (QI LX D cy ad) [.ref (ad 0)] M (fX11_see n0 M) :=
  CT.mk LXok hI (by decide) (Nat.le_of_ble_eq_true rfl) (fun hO => tfX11_see n0 hO M)
/-! X11_findHeld -/
def fX11_findHeld_59 (n0 : Nat) (k2 : Int32 → Int32 → Mem → Option (Int32 × Mem)) (x1 : Int32) (x2 : Int32) (M : Mem) : Option (Int32 × Mem) :=
  k2 x1 (x2 + (1 : Int32)) M
def fX11_findHeld_153 (n0 : Nat) (k69 : Int32 → Int32 → Int32 → Mem → Option (Int32 × Mem)) (x1 : Int32) (x2 : Int32) (x3 : Int32) (M : Mem) : Option (Int32 × Mem) :=
  k69 x1 x2 (x3 + (1 : Int32)) M
def bX11_findHeld_69 (n0 : Nat) (k69 : Int32 → Int32 → Int32 → Mem → Option (Int32 × Mem)) (x1 : Int32) (x2 : Int32) (x3 : Int32) (M : Mem) : Option (Int32 × Mem) :=
  if (gI M (128 * (gR M 1) + 1)) ≤ x3 then
    some (x2, M)
  else
    (fX1_hold n0 x1 x3 (0 : Int32) (gI M 1281) M).bind fun z94 =>
    (fX1_foresee n0 26 (40 : Int32) z94).bind fun z107 =>
    (fX5_noteHours n0 26 (x3 + (1 : Int32)) z107.1 z107.2).bind fun z125 =>
    (fX5_isSo n0 26 x1 z107.1 z125).bind fun z139 =>
    if z139.1 = 0 then
      fX11_findHeld_153 n0 k69 x1 x2 x3 z139.2
    else
      bnd (x2 ||| ((1 : Int32) <<< ((x3 + (1 : Int32)) &&& 31))) fun x2_152 =>
      fX11_findHeld_153 n0 k69 x1 x2_152 x3 z139.2
def fX11_findHeld_69 (n0 : Nat) : Int32 → Int32 → Int32 → Mem → Option (Int32 × Mem) := loopN (bX11_findHeld_69 n0) (fun _ _ _ _ => none) n0
def bX11_findHeld_2 (n0 : Nat) (k2 : Int32 → Int32 → Mem → Option (Int32 × Mem)) (x1 : Int32) (x2 : Int32) (M : Mem) : Option (Int32 × Mem) :=
  if (gI M (128 * (gR M 1) + 5)) ≤ x2 then
    fX11_findHeld_69 n0 x1 (0 : Int32) (-1 : Int32) M
  else
    if x2 = x1 then
      fX11_findHeld_59 n0 k2 x1 x2 M
    else
      (fX5_isAbout n0 x2 M).bind fun z23 =>
      if z23.1 = 0 then
        fX11_findHeld_59 n0 k2 x1 x2 z23.2
      else
        (fX11_foresee n0 26 x2 (40 : Int32) z23.2).bind fun z37 =>
        (fX5_isSo n0 26 x2 z37.1 z37.2).bind fun z51 =>
        if z51.1 = 0 then
          some ((0 : Int32), z51.2)
        else
          fX11_findHeld_59 n0 k2 x1 x2 z51.2
def fX11_findHeld_2 (n0 : Nat) : Int32 → Int32 → Mem → Option (Int32 × Mem) := loopN (bX11_findHeld_2 n0) (fun _ _ _ => none) n0
def fX11_findHeld (n0 : Nat) (x1 : Int32) (M : Mem) : Option (Int32 × Mem) :=
  fX11_findHeld_2 n0 x1 (0 : Int32) M
theorem tfX11_findHeld_59 (n0 : Nat) (hO : OKc p (rmL 7) s m args meth c LX D cy ad cX11_findHeld RX11 5 7 (some .int)) (k2 : Int32 → Int32 → Mem → Option (Int32 × Mem)) (hk2 : ∀ (x1 : Int32) (x2 : Int32) (M : Mem), BL p l e (rmL 7) s m args below meth c LX D cy ad 5 (QI LX D cy ad) 2 [(0, .ref (ad 0)), (1, .int x1), (2, .int x2)] [] M (k2 x1 x2 M)) (x1 : Int32) (x2 : Int32) (M : Mem) : BL p l e (rmL 7) s m args below meth c LX D cy ad 5 (QI LX D cy ad) 59 [(0, .ref (ad 0)), (1, .int x1), (2, .int x2)] [] M (fX11_findHeld_59 n0 k2 x1 x2 M) := by
  unfold fX11_findHeld_59
  refine b_iinc hO dX11_findHeld_59 2 rfl ic_i_1 (by decide) (lv' := [(2, .int _), (0, .ref _), (1, .int _)]) rfl ?_
  refine b_goto hO dX11_findHeld_62 (tgt := 2) (by decide) ?_
  refine b_sub [1, 2, 0] rfl ?_
  exact hk2 _ _ _
theorem tfX11_findHeld_153 (n0 : Nat) (hO : OKc p (rmL 7) s m args meth c LX D cy ad cX11_findHeld RX11 5 7 (some .int)) (k69 : Int32 → Int32 → Int32 → Mem → Option (Int32 × Mem)) (hk69 : ∀ (x1 : Int32) (x2 : Int32) (x3 : Int32) (M : Mem), BL p l e (rmL 7) s m args below meth c LX D cy ad 5 (QI LX D cy ad) 69 [(0, .ref (ad 0)), (1, .int x1), (2, .int x2), (3, .int x3)] [] M (k69 x1 x2 x3 M)) (x1 : Int32) (x2 : Int32) (x3 : Int32) (M : Mem) : BL p l e (rmL 7) s m args below meth c LX D cy ad 5 (QI LX D cy ad) 153 [(0, .ref (ad 0)), (1, .int x1), (2, .int x2), (3, .int x3)] [] M (fX11_findHeld_153 n0 k69 x1 x2 x3 M) := by
  unfold fX11_findHeld_153
  refine b_iinc hO dX11_findHeld_153 3 rfl ic_i_1 (by decide) (lv' := [(3, .int _), (0, .ref _), (1, .int _), (2, .int _)]) rfl ?_
  refine b_goto hO dX11_findHeld_156 (tgt := 69) (by decide) ?_
  refine b_sub [1, 2, 3, 0] rfl ?_
  exact hk69 _ _ _ _
theorem tbX11_findHeld_69 (n0 : Nat) (hO : OKc p (rmL 7) s m args meth c LX D cy ad cX11_findHeld RX11 5 7 (some .int)) (k69 : Int32 → Int32 → Int32 → Mem → Option (Int32 × Mem)) (hk69 : ∀ (x1 : Int32) (x2 : Int32) (x3 : Int32) (M : Mem), BL p l e (rmL 7) s m args below meth c LX D cy ad 5 (QI LX D cy ad) 69 [(0, .ref (ad 0)), (1, .int x1), (2, .int x2), (3, .int x3)] [] M (k69 x1 x2 x3 M)) (x1 : Int32) (x2 : Int32) (x3 : Int32) (M : Mem) : BL p l e (rmL 7) s m args below meth c LX D cy ad 5 (QI LX D cy ad) 69 [(0, .ref (ad 0)), (1, .int x1), (2, .int x2), (3, .int x3)] [] M (bX11_findHeld_69 n0 k69 x1 x2 x3 M) := by
  unfold bX11_findHeld_69
  refine b_iload_n hO dX11_findHeld_69 3 rfl rfl ?_
  refine b_aload_n hO dX11_findHeld_70 0 rfl rfl ?_
  refine b_getR hO flX11_19 kLX_0 (id := 1) rfl rfl (rk := 9) rfl (by decide) dX11_findHeld_71 (fun hg1 => ?_)
  refine b_get hO flX11_136 hg1 (v := .int (gI _ (128 * (gR M 1) + 1))) rfl dX11_findHeld_74 ?_
  refine b_icmp_ge hO dX11_findHeld_77 (tgt := 159) (by decide) ?_ ?_
  · refine b_iload_n hO dX11_findHeld_159 2 rfl rfl ?_
    exact b_iret hO dX11_findHeld_160
  · refine b_aload_n hO dX11_findHeld_80 0 rfl rfl ?_
    refine b_get hO flX11_40 kLX_0 (v := .ref (ad 7)) rfl dX11_findHeld_81 ?_
    refine b_iload_n hO dX11_findHeld_84 1 rfl rfl ?_
    refine b_iload_n hO dX11_findHeld_85 3 rfl rfl ?_
    refine b_iconst hO dX11_findHeld_86 ic_i_0 ?_
    refine b_aload_n hO dX11_findHeld_87 0 rfl rfl ?_
    refine b_get hO flX11_47 kLX_0 (v := .ref (ad 10)) rfl dX11_findHeld_88 ?_
    refine b_get hO flX11_148 kLX_10 (v := .int (gI _ 1281)) rfl dX11_findHeld_91 ?_
    refine b_callVV hO mdX1_hold mvX1_hold w952 (ci := 1) rfl rfl (by decide) kLX_7 (As := [.int _, .int _, .int _, .int _]) (st := []) (ctX1_hold n0 hO.2.2.2.2.2.2.1 _ _ _ _ _) (Nat.le_of_ble_eq_true rfl) rfl rfl (Nat.le_of_ble_eq_true rfl) dX11_findHeld_94 (fun z94 => ?_)
    refine b_aload_n hO dX11_findHeld_97 0 rfl rfl ?_
    refine b_get hO flX11_40 kLX_0 (v := .ref (ad 7)) rfl dX11_findHeld_98 ?_
    refine b_aload_n hO dX11_findHeld_101 0 rfl rfl ?_
    refine b_get hO flX11_72 kLX_0 (v := .ref (ad 26)) rfl dX11_findHeld_102 ?_
    refine b_bipush hO dX11_findHeld_105 ic_b_40 ?_
    refine b_callVI hO mdX1_foresee mvX1_foresee w970 (ci := 1) rfl rfl (by decide) kLX_7 (As := [.ref _, .int _]) (st := []) (ctX1_foresee n0 _ kLX_26 hO.2.2.2.2.2.2.1 _ _) (Nat.le_of_ble_eq_true rfl) rfl rfl (Nat.le_of_ble_eq_true rfl) dX11_findHeld_107 (fun z107 => ?_)
    refine b_istore hO dX11_findHeld_110 (by decide) (lv' := [(4, .int _), (0, .ref _), (1, .int _), (2, .int _), (3, .int _)]) rfl ?_
    refine b_aload_n hO dX11_findHeld_112 1 rfl rfl ?_
    refine b_get hO flX11_68 kLX_0 (v := .ref (ad 21)) rfl dX11_findHeld_113 ?_
    refine b_iload_n hO dX11_findHeld_116 4 rfl rfl ?_
    refine b_iconst hO dX11_findHeld_117 ic_i_1 ?_
    refine b_iadd hO dX11_findHeld_118 ?_
    refine b_aload_n hO dX11_findHeld_119 1 rfl rfl ?_
    refine b_get hO flX11_72 kLX_0 (v := .ref (ad 26)) rfl dX11_findHeld_120 ?_
    refine b_iload hO dX11_findHeld_123 0 rfl ?_
    refine b_callVV hO mdX5_noteHours mvX5_noteHours w1110 (ci := 5) rfl rfl (by decide) kLX_21 (As := [.int _, .ref _, .int _]) (st := []) (ctX5_noteHours n0 _ kLX_26 hO.2.2.2.2.2.2.1 _ _ _) (Nat.le_of_ble_eq_true rfl) rfl rfl (Nat.le_of_ble_eq_true rfl) dX11_findHeld_125 (fun z125 => ?_)
    refine b_aload_n hO dX11_findHeld_128 1 rfl rfl ?_
    refine b_get hO flX11_68 kLX_0 (v := .ref (ad 21)) rfl dX11_findHeld_129 ?_
    refine b_iload_n hO dX11_findHeld_132 2 rfl rfl ?_
    refine b_aload_n hO dX11_findHeld_133 1 rfl rfl ?_
    refine b_get hO flX11_72 kLX_0 (v := .ref (ad 26)) rfl dX11_findHeld_134 ?_
    refine b_iload hO dX11_findHeld_137 0 rfl ?_
    refine b_callVI hO mdX5_isSo mvX5_isSo w1106 (ci := 5) rfl rfl (by decide) kLX_21 (As := [.int _, .ref _, .int _]) (st := []) (ctX5_isSo n0 _ kLX_26 hO.2.2.2.2.2.2.1 _ _ _) (Nat.le_of_ble_eq_true rfl) rfl rfl (Nat.le_of_ble_eq_true rfl) dX11_findHeld_139 (fun z139 => ?_)
    refine b_if_eq hO dX11_findHeld_142 (tgt := 153) (by decide) ?_ ?_
    · refine b_sub [1, 2, 3, 4] rfl ?_
      exact tfX11_findHeld_153 n0 hO k69 hk69 _ _ _ _
    · refine b_iload_n hO dX11_findHeld_145 3 rfl rfl ?_
      refine b_iconst hO dX11_findHeld_146 ic_i_1 ?_
      refine b_iload_n hO dX11_findHeld_147 4 rfl rfl ?_
      refine b_iconst hO dX11_findHeld_148 ic_i_1 ?_
      refine b_iadd hO dX11_findHeld_149 ?_
      refine b_ishl hO dX11_findHeld_150 ?_
      refine b_ior hO dX11_findHeld_151 ?_
      refine b_topI (fun x2_152 => ?_)
      refine b_istore_n hO dX11_findHeld_152 rfl (by decide) (lv' := [(2, .int _), (4, .int _), (0, .ref _), (1, .int _), (3, .int _)]) rfl ?_
      refine b_sub [2, 3, 0, 4] rfl ?_
      exact tfX11_findHeld_153 n0 hO k69 hk69 _ _ _ _
theorem lX11_findHeld_69 (n0 : Nat) (hO : OKc p (rmL 7) s m args meth c LX D cy ad cX11_findHeld RX11 5 7 (some .int)) : ∀ (w : Nat) (x1 : Int32) (x2 : Int32) (x3 : Int32) (M : Mem), BL p l e (rmL 7) s m args below meth c LX D cy ad 5 (QI LX D cy ad) 69 [(0, .ref (ad 0)), (1, .int x1), (2, .int x2), (3, .int x3)] [] M (loopN (bX11_findHeld_69 n0) (fun _ _ _ _ => none) w x1 x2 x3 M) := by
  intro w
  induction w with
  | zero =>
    intros
    exact b_none
  | succ w ih =>
    intro x1 x2 x3 M
    exact tbX11_findHeld_69 n0 hO _ ih x1 x2 x3 M
theorem tfX11_findHeld_69 (n0 : Nat) (hO : OKc p (rmL 7) s m args meth c LX D cy ad cX11_findHeld RX11 5 7 (some .int)) (x1 : Int32) (x2 : Int32) (x3 : Int32) (M : Mem) : BL p l e (rmL 7) s m args below meth c LX D cy ad 5 (QI LX D cy ad) 69 [(0, .ref (ad 0)), (1, .int x1), (2, .int x2), (3, .int x3)] [] M (fX11_findHeld_69 n0 x1 x2 x3 M) := lX11_findHeld_69 n0 hO n0 x1 x2 x3 M
theorem tbX11_findHeld_2 (n0 : Nat) (hO : OKc p (rmL 7) s m args meth c LX D cy ad cX11_findHeld RX11 5 7 (some .int)) (k2 : Int32 → Int32 → Mem → Option (Int32 × Mem)) (hk2 : ∀ (x1 : Int32) (x2 : Int32) (M : Mem), BL p l e (rmL 7) s m args below meth c LX D cy ad 5 (QI LX D cy ad) 2 [(0, .ref (ad 0)), (1, .int x1), (2, .int x2)] [] M (k2 x1 x2 M)) (x1 : Int32) (x2 : Int32) (M : Mem) : BL p l e (rmL 7) s m args below meth c LX D cy ad 5 (QI LX D cy ad) 2 [(0, .ref (ad 0)), (1, .int x1), (2, .int x2)] [] M (bX11_findHeld_2 n0 k2 x1 x2 M) := by
  unfold bX11_findHeld_2
  refine b_iload_n hO dX11_findHeld_2 2 rfl rfl ?_
  refine b_aload_n hO dX11_findHeld_3 0 rfl rfl ?_
  refine b_getR hO flX11_19 kLX_0 (id := 1) rfl rfl (rk := 9) rfl (by decide) dX11_findHeld_4 (fun hg1 => ?_)
  refine b_get hO flX11_139 hg1 (v := .int (gI _ (128 * (gR M 1) + 5))) rfl dX11_findHeld_7 ?_
  refine b_icmp_ge hO dX11_findHeld_10 (tgt := 65) (by decide) ?_ ?_
  · refine b_iconst hO dX11_findHeld_65 ic_i_0 ?_
    refine b_istore_n hO dX11_findHeld_66 rfl (by decide) (lv' := [(2, .int _), (0, .ref _), (1, .int _)]) rfl ?_
    refine b_iconst hO dX11_findHeld_67 ic_i_m1 ?_
    refine b_istore_n hO dX11_findHeld_68 rfl (by decide) (lv' := [(3, .int _), (2, .int _), (0, .ref _), (1, .int _)]) rfl ?_
    refine b_sub [2, 3, 1, 0] rfl ?_
    exact tfX11_findHeld_69 n0 hO _ _ _ _
  · refine b_iload_n hO dX11_findHeld_13 2 rfl rfl ?_
    refine b_iload_n hO dX11_findHeld_14 1 rfl rfl ?_
    refine b_icmp_eq hO dX11_findHeld_15 (tgt := 59) (by decide) ?_ ?_
    · exact tfX11_findHeld_59 n0 hO k2 hk2 _ _ _
    · refine b_aload_n hO dX11_findHeld_18 0 rfl rfl ?_
      refine b_get hO flX11_68 kLX_0 (v := .ref (ad 21)) rfl dX11_findHeld_19 ?_
      refine b_iload_n hO dX11_findHeld_22 2 rfl rfl ?_
      refine b_callVI hO mdX5_isAbout mvX5_isAbout w1102 (ci := 5) rfl rfl (by decide) kLX_21 (As := [.int _]) (st := []) (ctX5_isAbout n0 hO.2.2.2.2.2.2.1 _ _) (Nat.le_of_ble_eq_true rfl) rfl rfl (Nat.le_of_ble_eq_true rfl) dX11_findHeld_23 (fun z23 => ?_)
      refine b_if_eq hO dX11_findHeld_26 (tgt := 59) (by decide) ?_ ?_
      · exact tfX11_findHeld_59 n0 hO k2 hk2 _ _ _
      · refine b_aload_n hO dX11_findHeld_29 0 rfl rfl ?_
        refine b_iload_n hO dX11_findHeld_30 2 rfl rfl ?_
        refine b_aload_n hO dX11_findHeld_31 0 rfl rfl ?_
        refine b_get hO flX11_72 kLX_0 (v := .ref (ad 26)) rfl dX11_findHeld_32 ?_
        refine b_bipush hO dX11_findHeld_35 ic_b_40 ?_
        refine b_callVI hO mdX11_foresee mvX11_foresee w966 (ci := 11) rfl rfl (by decide) kLX_0 (As := [.int _, .ref _, .int _]) (st := []) (ctX11_foresee n0 _ kLX_26 hO.2.2.2.2.2.2.1 _ _ _) (Nat.le_of_ble_eq_true rfl) rfl rfl (Nat.le_of_ble_eq_true rfl) dX11_findHeld_37 (fun z37 => ?_)
        refine b_istore_n hO dX11_findHeld_40 rfl (by decide) (lv' := [(3, .int _), (0, .ref _), (1, .int _), (2, .int _)]) rfl ?_
        refine b_aload_n hO dX11_findHeld_41 1 rfl rfl ?_
        refine b_get hO flX11_68 kLX_0 (v := .ref (ad 21)) rfl dX11_findHeld_42 ?_
        refine b_iload_n hO dX11_findHeld_45 3 rfl rfl ?_
        refine b_aload_n hO dX11_findHeld_46 1 rfl rfl ?_
        refine b_get hO flX11_72 kLX_0 (v := .ref (ad 26)) rfl dX11_findHeld_47 ?_
        refine b_iload_n hO dX11_findHeld_50 0 rfl rfl ?_
        refine b_callVI hO mdX5_isSo mvX5_isSo w1106 (ci := 5) rfl rfl (by decide) kLX_21 (As := [.int _, .ref _, .int _]) (st := []) (ctX5_isSo n0 _ kLX_26 hO.2.2.2.2.2.2.1 _ _ _) (Nat.le_of_ble_eq_true rfl) rfl rfl (Nat.le_of_ble_eq_true rfl) dX11_findHeld_51 (fun z51 => ?_)
        refine b_if_ne hO dX11_findHeld_54 (tgt := 59) (by decide) ?_ ?_
        · refine b_sub [1, 2, 3] rfl ?_
          exact tfX11_findHeld_59 n0 hO k2 hk2 _ _ _
        · refine b_iconst hO dX11_findHeld_57 ic_i_0 ?_
          exact b_iret hO dX11_findHeld_58
theorem lX11_findHeld_2 (n0 : Nat) (hO : OKc p (rmL 7) s m args meth c LX D cy ad cX11_findHeld RX11 5 7 (some .int)) : ∀ (w : Nat) (x1 : Int32) (x2 : Int32) (M : Mem), BL p l e (rmL 7) s m args below meth c LX D cy ad 5 (QI LX D cy ad) 2 [(0, .ref (ad 0)), (1, .int x1), (2, .int x2)] [] M (loopN (bX11_findHeld_2 n0) (fun _ _ _ => none) w x1 x2 M) := by
  intro w
  induction w with
  | zero =>
    intros
    exact b_none
  | succ w ih =>
    intro x1 x2 M
    exact tbX11_findHeld_2 n0 hO _ ih x1 x2 M
theorem tfX11_findHeld_2 (n0 : Nat) (hO : OKc p (rmL 7) s m args meth c LX D cy ad cX11_findHeld RX11 5 7 (some .int)) (x1 : Int32) (x2 : Int32) (M : Mem) : BL p l e (rmL 7) s m args below meth c LX D cy ad 5 (QI LX D cy ad) 2 [(0, .ref (ad 0)), (1, .int x1), (2, .int x2)] [] M (fX11_findHeld_2 n0 x1 x2 M) := lX11_findHeld_2 n0 hO n0 x1 x2 M
theorem tfX11_findHeld (n0 : Nat) (hO : OKc p (rmL 7) s m args meth c LX D cy ad cX11_findHeld RX11 5 7 (some .int)) (x1 : Int32) (M : Mem) : BL p l e (rmL 7) s m args below meth c LX D cy ad 5 (QI LX D cy ad) 0 [(0, .ref (ad 0)), (1, .int x1)] [] M (fX11_findHeld n0 x1 M) := by
  unfold fX11_findHeld
  refine b_iconst hO dX11_findHeld_0 ic_i_0 ?_
  refine b_istore_n hO dX11_findHeld_1 rfl (by decide) (lv' := [(2, .int _), (0, .ref _), (1, .int _)]) rfl ?_
  refine b_sub [1, 2, 0] rfl ?_
  exact tfX11_findHeld_2 n0 hO _ _ _
theorem ctX11_findHeld (n0 : Nat) (hI : Inj LX ad) (x1 : Int32) (M : Mem) : CT l LX D cy ad yX11_findHeld cX11_findHeld 5 (some .int) 7 (QI LX D cy ad) [.ref (ad 0), .int x1] M (fX11_findHeld n0 x1 M) :=
  CT.mk LXok hI (by decide) (Nat.le_of_ble_eq_true rfl) (fun hO => tfX11_findHeld n0 hO x1 M)
/-! X11_held -/
def fX11_held (n0 : Nat) (x1 : Int32) (M : Mem) : Option (Int32 × Mem) :=
  (fX9_isCorner n0 (gR M 1) x1 M).bind fun z5 =>
  if z5.1 = 0 then
    some ((-1 : Int32), z5.2)
  else
    (fX11_findHeld n0 x1 z5.2).bind fun z15 =>
    some (z15.1, z15.2)
theorem tfX11_held (n0 : Nat) (hO : OKc p (rmL 8) s m args meth c LX D cy ad cX11_held RX11 2 8 (some .int)) (x1 : Int32) (M : Mem) : BL p l e (rmL 8) s m args below meth c LX D cy ad 2 (QI LX D cy ad) 0 [(0, .ref (ad 0)), (1, .int x1)] [] M (fX11_held n0 x1 M) := by
  unfold fX11_held
  refine b_aload_n hO dX11_held_0 0 rfl rfl ?_
  refine b_getR hO flX11_19 kLX_0 (id := 1) rfl rfl (rk := 9) rfl (by decide) dX11_held_1 (fun hg1 => ?_)
  refine b_iload_n hO dX11_held_4 1 rfl rfl ?_
  refine b_callVI hO mdX9_isCorner mvX9_isCorner w928 (ci := 9) rfl rfl (by decide) hg1 (As := [.int _]) (st := []) (ctX9_isCorner n0 _ hg1 hO.2.2.2.2.2.2.1 _ _) (Nat.le_of_ble_eq_true rfl) rfl rfl (Nat.le_of_ble_eq_true rfl) dX11_held_5 (fun z5 => ?_)
  refine b_if_ne hO dX11_held_8 (tgt := 13) (by decide) ?_ ?_
  · refine b_aload_n hO dX11_held_13 0 rfl rfl ?_
    refine b_iload_n hO dX11_held_14 1 rfl rfl ?_
    refine b_callVI hO mdX11_findHeld mvX11_findHeld w1098 (ci := 11) rfl rfl (by decide) kLX_0 (As := [.int _]) (st := []) (ctX11_findHeld n0 hO.2.2.2.2.2.2.1 _ _) (Nat.le_of_ble_eq_true rfl) rfl rfl (Nat.le_of_ble_eq_true rfl) dX11_held_15 (fun z15 => ?_)
    exact b_iret hO dX11_held_18
  · refine b_iconst hO dX11_held_11 ic_i_m1 ?_
    exact b_iret hO dX11_held_12
theorem ctX11_held (n0 : Nat) (hI : Inj LX ad) (x1 : Int32) (M : Mem) : CT l LX D cy ad yX11_held cX11_held 2 (some .int) 8 (QI LX D cy ad) [.ref (ad 0), .int x1] M (fX11_held n0 x1 M) :=
  CT.mk LXok hI (by decide) (Nat.le_of_ble_eq_true rfl) (fun hO => tfX11_held n0 hO x1 M)
/-! X11_tells -/
def fX11_tells_103 (n0 : Nat) (k69 : Int32 → Int32 → Int32 → Int32 → Int32 → Int32 → Mem → Option (Int32 × Mem)) (x2 : Int32) (x3 : Int32) (x4 : Int32) (x5 : Int32) (x6 : Int32) (x7 : Int32) (M : Mem) : Option (Int32 × Mem) :=
  k69 x2 x3 x4 x5 x6 (x7 + (1 : Int32)) M
def bX11_tells_69 (n0 : Nat) (k69 : Int32 → Int32 → Int32 → Int32 → Int32 → Int32 → Mem → Option (Int32 × Mem)) (x2 : Int32) (x3 : Int32) (x4 : Int32) (x5 : Int32) (x6 : Int32) (x7 : Int32) (M : Mem) : Option (Int32 × Mem) :=
  if x4 < x7 then
    if x2 = 0 then
      some (x5, M)
    else
      some (x6, M)
  else
    (fX5_mostLeft n0 x3 x7 M).bind fun z83 =>
    if x6 ≤ z83.1 then
      fX11_tells_103 n0 k69 x2 x3 x4 x5 x6 x7 z83.2
    else
      fX11_tells_103 n0 k69 x2 x3 x4 x7 z83.1 x7 z83.2
def fX11_tells_69 (n0 : Nat) : Int32 → Int32 → Int32 → Int32 → Int32 → Int32 → Mem → Option (Int32 × Mem) := loopN (bX11_tells_69 n0) (fun _ _ _ _ _ _ _ => none) n0
def fX11_tells (n0 : Nat) (x1 : Int32) (x2 : Int32) (M : Mem) : Option (Int32 × Mem) :=
  (fX9_isCorner n0 (gR M 1) x1 M).bind fun z5 =>
  if z5.1 = 0 then
    some ((-1 : Int32), z5.2)
  else
    if x2 < 0 then
      some ((-1 : Int32), z5.2)
    else
      if x2 ≤ (1 : Int32) then
        (fX11_findHeld n0 x1 z5.2).bind fun z24 =>
        if z24.1 = 0 then
          some ((-1 : Int32), z24.2)
        else
          bnd (imin (40 : Int32) ((9999 : Int32) - (gI z24.2 1281))) fun x4_50 =>
          (fX5_mostLeft n0 z24.1 (0 : Int32) z24.2).bind fun z61 =>
          fX11_tells_69 n0 x2 z24.1 x4_50 (0 : Int32) z61.1 (1 : Int32) z61.2
      else
        some ((-1 : Int32), z5.2)
theorem tfX11_tells_103 (n0 : Nat) (hO : OKc p (rmL 8) s m args meth c LX D cy ad cX11_tells RX11 9 8 (some .int)) (k69 : Int32 → Int32 → Int32 → Int32 → Int32 → Int32 → Mem → Option (Int32 × Mem)) (hk69 : ∀ (x2 : Int32) (x3 : Int32) (x4 : Int32) (x5 : Int32) (x6 : Int32) (x7 : Int32) (M : Mem), BL p l e (rmL 8) s m args below meth c LX D cy ad 9 (QI LX D cy ad) 69 [(0, .ref (ad 0)), (2, .int x2), (3, .int x3), (4, .int x4), (5, .int x5), (6, .int x6), (7, .int x7)] [] M (k69 x2 x3 x4 x5 x6 x7 M)) (x2 : Int32) (x3 : Int32) (x4 : Int32) (x5 : Int32) (x6 : Int32) (x7 : Int32) (M : Mem) : BL p l e (rmL 8) s m args below meth c LX D cy ad 9 (QI LX D cy ad) 103 [(0, .ref (ad 0)), (2, .int x2), (3, .int x3), (4, .int x4), (5, .int x5), (6, .int x6), (7, .int x7)] [] M (fX11_tells_103 n0 k69 x2 x3 x4 x5 x6 x7 M) := by
  unfold fX11_tells_103
  refine b_iinc hO dX11_tells_103 6 rfl ic_i_1 (by decide) (lv' := [(7, .int _), (0, .ref _), (2, .int _), (3, .int _), (4, .int _), (5, .int _), (6, .int _)]) rfl ?_
  refine b_goto hO dX11_tells_106 (tgt := 69) (by decide) ?_
  refine b_sub [1, 2, 3, 4, 5, 6, 0] rfl ?_
  exact hk69 _ _ _ _ _ _ _
theorem tbX11_tells_69 (n0 : Nat) (hO : OKc p (rmL 8) s m args meth c LX D cy ad cX11_tells RX11 9 8 (some .int)) (k69 : Int32 → Int32 → Int32 → Int32 → Int32 → Int32 → Mem → Option (Int32 × Mem)) (hk69 : ∀ (x2 : Int32) (x3 : Int32) (x4 : Int32) (x5 : Int32) (x6 : Int32) (x7 : Int32) (M : Mem), BL p l e (rmL 8) s m args below meth c LX D cy ad 9 (QI LX D cy ad) 69 [(0, .ref (ad 0)), (2, .int x2), (3, .int x3), (4, .int x4), (5, .int x5), (6, .int x6), (7, .int x7)] [] M (k69 x2 x3 x4 x5 x6 x7 M)) (x2 : Int32) (x3 : Int32) (x4 : Int32) (x5 : Int32) (x6 : Int32) (x7 : Int32) (M : Mem) : BL p l e (rmL 8) s m args below meth c LX D cy ad 9 (QI LX D cy ad) 69 [(0, .ref (ad 0)), (2, .int x2), (3, .int x3), (4, .int x4), (5, .int x5), (6, .int x6), (7, .int x7)] [] M (bX11_tells_69 n0 k69 x2 x3 x4 x5 x6 x7 M) := by
  unfold bX11_tells_69
  refine b_iload hO dX11_tells_69 6 rfl ?_
  refine b_iload hO dX11_tells_71 3 rfl ?_
  refine b_icmp_gt hO dX11_tells_73 (tgt := 109) (by decide) ?_ ?_
  · refine b_iload_n hO dX11_tells_109 1 rfl rfl ?_
    refine b_if_ne hO dX11_tells_110 (tgt := 118) (by decide) ?_ ?_
    · refine b_iload hO dX11_tells_118 5 rfl ?_
      exact b_iret hO dX11_tells_120
    · refine b_iload hO dX11_tells_113 4 rfl ?_
      refine b_goto hO dX11_tells_115 (tgt := 120) (by decide) ?_
      exact b_iret hO dX11_tells_120
  · refine b_aload_n hO dX11_tells_76 0 rfl rfl ?_
    refine b_get hO flX11_68 kLX_0 (v := .ref (ad 21)) rfl dX11_tells_77 ?_
    refine b_iload_n hO dX11_tells_80 2 rfl rfl ?_
    refine b_iload hO dX11_tells_81 6 rfl ?_
    refine b_callVI hO mdX5_mostLeft mvX5_mostLeft w1119 (ci := 5) rfl rfl (by decide) kLX_21 (As := [.int _, .int _]) (st := []) (ctX5_mostLeft n0 hO.2.2.2.2.2.2.1 _ _ _) (Nat.le_of_ble_eq_true rfl) rfl rfl (Nat.le_of_ble_eq_true rfl) dX11_tells_83 (fun z83 => ?_)
    refine b_istore hO dX11_tells_86 (by decide) (lv' := [(8, .int _), (0, .ref _), (2, .int _), (3, .int _), (4, .int _), (5, .int _), (6, .int _), (7, .int _)]) rfl ?_
    refine b_iload hO dX11_tells_88 0 rfl ?_
    refine b_iload hO dX11_tells_90 6 rfl ?_
    refine b_icmp_ge hO dX11_tells_92 (tgt := 103) (by decide) ?_ ?_
    · refine b_sub [1, 2, 3, 4, 5, 6, 7] rfl ?_
      exact tfX11_tells_103 n0 hO k69 hk69 _ _ _ _ _ _ _
    · refine b_iload hO dX11_tells_95 7 rfl ?_
      refine b_istore hO dX11_tells_97 (by decide) (lv' := [(5, .int _), (8, .int _), (0, .ref _), (2, .int _), (3, .int _), (4, .int _), (6, .int _), (7, .int _)]) rfl ?_
      refine b_iload hO dX11_tells_99 1 rfl ?_
      refine b_istore hO dX11_tells_101 (by decide) (lv' := [(6, .int _), (5, .int _), (8, .int _), (0, .ref _), (2, .int _), (3, .int _), (4, .int _), (7, .int _)]) rfl ?_
      refine b_sub [3, 4, 5, 6, 1, 0, 7] rfl ?_
      exact tfX11_tells_103 n0 hO k69 hk69 _ _ _ _ _ _ _
theorem lX11_tells_69 (n0 : Nat) (hO : OKc p (rmL 8) s m args meth c LX D cy ad cX11_tells RX11 9 8 (some .int)) : ∀ (w : Nat) (x2 : Int32) (x3 : Int32) (x4 : Int32) (x5 : Int32) (x6 : Int32) (x7 : Int32) (M : Mem), BL p l e (rmL 8) s m args below meth c LX D cy ad 9 (QI LX D cy ad) 69 [(0, .ref (ad 0)), (2, .int x2), (3, .int x3), (4, .int x4), (5, .int x5), (6, .int x6), (7, .int x7)] [] M (loopN (bX11_tells_69 n0) (fun _ _ _ _ _ _ _ => none) w x2 x3 x4 x5 x6 x7 M) := by
  intro w
  induction w with
  | zero =>
    intros
    exact b_none
  | succ w ih =>
    intro x2 x3 x4 x5 x6 x7 M
    exact tbX11_tells_69 n0 hO _ ih x2 x3 x4 x5 x6 x7 M
theorem tfX11_tells_69 (n0 : Nat) (hO : OKc p (rmL 8) s m args meth c LX D cy ad cX11_tells RX11 9 8 (some .int)) (x2 : Int32) (x3 : Int32) (x4 : Int32) (x5 : Int32) (x6 : Int32) (x7 : Int32) (M : Mem) : BL p l e (rmL 8) s m args below meth c LX D cy ad 9 (QI LX D cy ad) 69 [(0, .ref (ad 0)), (2, .int x2), (3, .int x3), (4, .int x4), (5, .int x5), (6, .int x6), (7, .int x7)] [] M (fX11_tells_69 n0 x2 x3 x4 x5 x6 x7 M) := lX11_tells_69 n0 hO n0 x2 x3 x4 x5 x6 x7 M
theorem tfX11_tells (n0 : Nat) (hO : OKc p (rmL 8) s m args meth c LX D cy ad cX11_tells RX11 9 8 (some .int)) (x1 : Int32) (x2 : Int32) (M : Mem) : BL p l e (rmL 8) s m args below meth c LX D cy ad 9 (QI LX D cy ad) 0 [(0, .ref (ad 0)), (1, .int x1), (2, .int x2)] [] M (fX11_tells n0 x1 x2 M) := by
  unfold fX11_tells
  refine b_aload_n hO dX11_tells_0 0 rfl rfl ?_
  refine b_getR hO flX11_19 kLX_0 (id := 1) rfl rfl (rk := 9) rfl (by decide) dX11_tells_1 (fun hg1 => ?_)
  refine b_iload_n hO dX11_tells_4 1 rfl rfl ?_
  refine b_callVI hO mdX9_isCorner mvX9_isCorner w928 (ci := 9) rfl rfl (by decide) hg1 (As := [.int _]) (st := []) (ctX9_isCorner n0 _ hg1 hO.2.2.2.2.2.2.1 _ _) (Nat.le_of_ble_eq_true rfl) rfl rfl (Nat.le_of_ble_eq_true rfl) dX11_tells_5 (fun z5 => ?_)
  refine b_if_eq hO dX11_tells_8 (tgt := 20) (by decide) ?_ ?_
  · refine b_iconst hO dX11_tells_20 ic_i_m1 ?_
    exact b_iret hO dX11_tells_21
  · refine b_iload_n hO dX11_tells_11 2 rfl rfl ?_
    refine b_if_lt hO dX11_tells_12 (tgt := 20) (by decide) ?_ ?_
    · refine b_iconst hO dX11_tells_20 ic_i_m1 ?_
      exact b_iret hO dX11_tells_21
    · refine b_iload_n hO dX11_tells_15 2 rfl rfl ?_
      refine b_iconst hO dX11_tells_16 ic_i_1 ?_
      refine b_icmp_le hO dX11_tells_17 (tgt := 22) (by decide) ?_ ?_
      · refine b_aload_n hO dX11_tells_22 0 rfl rfl ?_
        refine b_iload_n hO dX11_tells_23 1 rfl rfl ?_
        refine b_callVI hO mdX11_findHeld mvX11_findHeld w1098 (ci := 11) rfl rfl (by decide) kLX_0 (As := [.int _]) (st := []) (ctX11_findHeld n0 hO.2.2.2.2.2.2.1 _ _) (Nat.le_of_ble_eq_true rfl) rfl rfl (Nat.le_of_ble_eq_true rfl) dX11_tells_24 (fun z24 => ?_)
        refine b_istore_n hO dX11_tells_27 rfl (by decide) (lv' := [(3, .int _), (0, .ref _), (1, .int _), (2, .int _)]) rfl ?_
        refine b_iload_n hO dX11_tells_28 0 rfl rfl ?_
        refine b_if_ne hO dX11_tells_29 (tgt := 34) (by decide) ?_ ?_
        · refine b_bipush hO dX11_tells_34 ic_b_40 ?_
          refine b_sipush hO dX11_tells_36 ic_s_9999 ?_
          refine b_aload_n hO dX11_tells_39 1 rfl rfl ?_
          refine b_get hO flX11_47 kLX_0 (v := .ref (ad 10)) rfl dX11_tells_40 ?_
          refine b_get hO flX11_148 kLX_10 (v := .int (gI _ 1281)) rfl dX11_tells_43 ?_
          refine b_isub hO dX11_tells_46 ?_
          refine b_mmin hO w1118 w591 w136 wm592 (by first | decide | omega) (Nat.le_of_ble_eq_true rfl) dX11_tells_47 ?_
          refine b_topI (fun x4_50 => ?_)
          refine b_istore hO dX11_tells_50 (by decide) (lv' := [(4, .int _), (3, .int _), (0, .ref _), (1, .int _), (2, .int _)]) rfl ?_
          refine b_iconst hO dX11_tells_52 ic_i_0 ?_
          refine b_istore hO dX11_tells_53 (by decide) (lv' := [(5, .int _), (4, .int _), (3, .int _), (0, .ref _), (1, .int _), (2, .int _)]) rfl ?_
          refine b_aload_n hO dX11_tells_55 3 rfl rfl ?_
          refine b_get hO flX11_68 kLX_0 (v := .ref (ad 21)) rfl dX11_tells_56 ?_
          refine b_iload_n hO dX11_tells_59 2 rfl rfl ?_
          refine b_iconst hO dX11_tells_60 ic_i_0 ?_
          refine b_callVI hO mdX5_mostLeft mvX5_mostLeft w1119 (ci := 5) rfl rfl (by decide) kLX_21 (As := [.int _, .int _]) (st := []) (ctX5_mostLeft n0 hO.2.2.2.2.2.2.1 _ _ _) (Nat.le_of_ble_eq_true rfl) rfl rfl (Nat.le_of_ble_eq_true rfl) dX11_tells_61 (fun z61 => ?_)
          refine b_istore hO dX11_tells_64 (by decide) (lv' := [(6, .int _), (5, .int _), (4, .int _), (3, .int _), (0, .ref _), (1, .int _), (2, .int _)]) rfl ?_
          refine b_iconst hO dX11_tells_66 ic_i_1 ?_
          refine b_istore hO dX11_tells_67 (by decide) (lv' := [(7, .int _), (6, .int _), (5, .int _), (4, .int _), (3, .int _), (0, .ref _), (1, .int _), (2, .int _)]) rfl ?_
          refine b_sub [5, 7, 4, 3, 2, 1, 0] rfl ?_
          exact tfX11_tells_69 n0 hO _ _ _ _ _ _ _
        · refine b_iconst hO dX11_tells_32 ic_i_m1 ?_
          exact b_iret hO dX11_tells_33
      · refine b_iconst hO dX11_tells_20 ic_i_m1 ?_
        exact b_iret hO dX11_tells_21
theorem ctX11_tells (n0 : Nat) (hI : Inj LX ad) (x1 : Int32) (x2 : Int32) (M : Mem) : CT l LX D cy ad yX11_tells cX11_tells 9 (some .int) 8 (QI LX D cy ad) [.ref (ad 0), .int x1, .int x2] M (fX11_tells n0 x1 x2 M) :=
  CT.mk LXok hI (by decide) (Nat.le_of_ble_eq_true rfl) (fun hO => tfX11_tells n0 hO x1 x2 M)
end
