section
section
variable {p : Program} {l : Launch} {e : Env} {s : State} {m : MethodId} {args : Array Value} {below : List Frame} {meth : Method} {c : Code} {D : va_G} {cy : Nat → ClassId} {ad : Nat → Nat} {dd : Nat}

/-! X11_countPlanned -/
def fX11_countPlanned_28 (n0 : Nat) (k4 : Int32 → Int32 → Mem → Option (Int32 × Mem)) (x1 : Int32) (x2 : Int32) (M : Mem) : Option (Int32 × Mem) :=
  k4 x1 (x2 + (1 : Int32)) M
def bX11_countPlanned_4 (n0 : Nat) (k4 : Int32 → Int32 → Mem → Option (Int32 × Mem)) (x1 : Int32) (x2 : Int32) (M : Mem) : Option (Int32 × Mem) :=
  if (gI M (128 * (gR M 1) + 5)) ≤ x2 then
    some (x1, M)
  else
    if oob x2 5 then none else
    if (gA M 28 (Int32.toNatClampNeg x2)) = (-1 : Int32) then
      fX11_countPlanned_28 n0 k4 x1 x2 M
    else
      fX11_countPlanned_28 n0 k4 (x1 + (1 : Int32)) x2 M
def fX11_countPlanned_4 (n0 : Nat) : Int32 → Int32 → Mem → Option (Int32 × Mem) := loopN (bX11_countPlanned_4 n0) (fun _ _ _ => none) n0
def fX11_countPlanned (n0 : Nat) (M : Mem) : Option (Int32 × Mem) :=
  fX11_countPlanned_4 n0 (0 : Int32) (0 : Int32) M
theorem tfX11_countPlanned_28 (n0 : Nat) (hO : OKc p (rmL 1) s m args meth c LX D cy ad cX11_countPlanned RX11 3 1 (some .int)) (k4 : Int32 → Int32 → Mem → Option (Int32 × Mem)) (hk4 : ∀ (x1 : Int32) (x2 : Int32) (M : Mem), BL p l e (rmL 1) s m args below meth c LX D cy ad 3 (QI LX D cy ad) 4 [(0, .ref (ad 0)), (1, .int x1), (2, .int x2)] [] M (k4 x1 x2 M)) (x1 : Int32) (x2 : Int32) (M : Mem) : BL p l e (rmL 1) s m args below meth c LX D cy ad 3 (QI LX D cy ad) 28 [(0, .ref (ad 0)), (1, .int x1), (2, .int x2)] [] M (fX11_countPlanned_28 n0 k4 x1 x2 M) := by
  unfold fX11_countPlanned_28
  refine b_iinc hO dX11_countPlanned_28 2 rfl ic_i_1 (by decide) (lv' := [(2, .int _), (0, .ref _), (1, .int _)]) rfl ?_
  refine b_goto hO dX11_countPlanned_31 (tgt := 4) (by decide) ?_
  refine b_sub [1, 2, 0] rfl ?_
  exact hk4 _ _ _
theorem tbX11_countPlanned_4 (n0 : Nat) (hO : OKc p (rmL 1) s m args meth c LX D cy ad cX11_countPlanned RX11 3 1 (some .int)) (k4 : Int32 → Int32 → Mem → Option (Int32 × Mem)) (hk4 : ∀ (x1 : Int32) (x2 : Int32) (M : Mem), BL p l e (rmL 1) s m args below meth c LX D cy ad 3 (QI LX D cy ad) 4 [(0, .ref (ad 0)), (1, .int x1), (2, .int x2)] [] M (k4 x1 x2 M)) (x1 : Int32) (x2 : Int32) (M : Mem) : BL p l e (rmL 1) s m args below meth c LX D cy ad 3 (QI LX D cy ad) 4 [(0, .ref (ad 0)), (1, .int x1), (2, .int x2)] [] M (bX11_countPlanned_4 n0 k4 x1 x2 M) := by
  unfold bX11_countPlanned_4
  refine b_iload_n hO dX11_countPlanned_4 2 rfl rfl ?_
  refine b_aload_n hO dX11_countPlanned_5 0 rfl rfl ?_
  refine b_getR hO flX11_19 kLX_0 (id := 1) rfl rfl (rk := 9) rfl (by decide) dX11_countPlanned_6 (fun hg1 => ?_)
  refine b_get hO flX11_139 hg1 (v := .int (gI _ (128 * (gR M 1) + 5))) rfl dX11_countPlanned_9 ?_
  refine b_icmp_ge hO dX11_countPlanned_12 (tgt := 34) (by decide) ?_ ?_
  · refine b_iload_n hO dX11_countPlanned_34 1 rfl rfl ?_
    exact b_iret hO dX11_countPlanned_35
  · refine b_aload_n hO dX11_countPlanned_15 0 rfl rfl ?_
    refine b_get hO flX11_79 kLX_0 (v := .ref (ad 28)) rfl dX11_countPlanned_16 ?_
    refine b_iload_n hO dX11_countPlanned_19 2 rfl rfl ?_
    refine b_iald hO kLX_28 (n := 5) rfl dX11_countPlanned_20 ?_
    refine b_iconst hO dX11_countPlanned_21 ic_i_m1 ?_
    refine b_icmp_eq hO dX11_countPlanned_22 (tgt := 28) (by decide) ?_ ?_
    · exact tfX11_countPlanned_28 n0 hO k4 hk4 _ _ _
    · refine b_iinc hO dX11_countPlanned_25 1 rfl ic_i_1 (by decide) (lv' := [(1, .int _), (0, .ref _), (2, .int _)]) rfl ?_
      refine b_sub [1, 0, 2] rfl ?_
      exact tfX11_countPlanned_28 n0 hO k4 hk4 _ _ _
theorem lX11_countPlanned_4 (n0 : Nat) (hO : OKc p (rmL 1) s m args meth c LX D cy ad cX11_countPlanned RX11 3 1 (some .int)) : ∀ (w : Nat) (x1 : Int32) (x2 : Int32) (M : Mem), BL p l e (rmL 1) s m args below meth c LX D cy ad 3 (QI LX D cy ad) 4 [(0, .ref (ad 0)), (1, .int x1), (2, .int x2)] [] M (loopN (bX11_countPlanned_4 n0) (fun _ _ _ => none) w x1 x2 M) := by
  intro w
  induction w with
  | zero =>
    intros
    exact b_none
  | succ w ih =>
    intro x1 x2 M
    exact tbX11_countPlanned_4 n0 hO _ ih x1 x2 M
theorem tfX11_countPlanned_4 (n0 : Nat) (hO : OKc p (rmL 1) s m args meth c LX D cy ad cX11_countPlanned RX11 3 1 (some .int)) (x1 : Int32) (x2 : Int32) (M : Mem) : BL p l e (rmL 1) s m args below meth c LX D cy ad 3 (QI LX D cy ad) 4 [(0, .ref (ad 0)), (1, .int x1), (2, .int x2)] [] M (fX11_countPlanned_4 n0 x1 x2 M) := lX11_countPlanned_4 n0 hO n0 x1 x2 M
theorem tfX11_countPlanned (n0 : Nat) (hO : OKc p (rmL 1) s m args meth c LX D cy ad cX11_countPlanned RX11 3 1 (some .int)) (M : Mem) : BL p l e (rmL 1) s m args below meth c LX D cy ad 3 (QI LX D cy ad) 0 [(0, .ref (ad 0))] [] M (fX11_countPlanned n0 M) := by
  unfold fX11_countPlanned
  refine b_iconst hO dX11_countPlanned_0 ic_i_0 ?_
  refine b_istore_n hO dX11_countPlanned_1 rfl (by decide) (lv' := [(1, .int _), (0, .ref _)]) rfl ?_
  refine b_iconst hO dX11_countPlanned_2 ic_i_0 ?_
  refine b_istore_n hO dX11_countPlanned_3 rfl (by decide) (lv' := [(2, .int _), (1, .int _), (0, .ref _)]) rfl ?_
  refine b_sub [2, 1, 0] rfl ?_
  exact tfX11_countPlanned_4 n0 hO _ _ _
theorem ctX11_countPlanned (n0 : Nat) (hI : Inj LX ad) (M : Mem) : CT l LX D cy ad yX11_countPlanned cX11_countPlanned 3 (some .int) 1 (QI LX D cy ad) [.ref (ad 0)] M (fX11_countPlanned n0 M) :=
  CT.mk LXok hI (by decide) (Nat.le_of_ble_eq_true rfl) (fun hO => tfX11_countPlanned n0 hO M)
/-! X11_planAnywhere -/
def bX11_planAnywhere_10 (n0 : Nat) (k10 : Int32 → Int32 → Int32 → Mem → Option (Int32 × Mem)) (x1 : Int32) (x2 : Int32) (x3 : Int32) (M : Mem) : Option (Int32 × Mem) :=
  if x3 < 0 then
    some ((0 : Int32), M)
  else
    (fX11_findGiving n0 x3 x1 x2 M).bind fun z23 =>
    if oob x3 5 then none else
    bnd (sA z23.2 28 (Int32.toNatClampNeg x3) z23.1) fun M26 =>
    if oob x3 5 then none else
    if (gA M26 28 (Int32.toNatClampNeg x3)) = (-1 : Int32) then
      k10 x1 x2 (x3 + (-1 : Int32)) M26
    else
      some ((1 : Int32), M26)
def fX11_planAnywhere_10 (n0 : Nat) : Int32 → Int32 → Int32 → Mem → Option (Int32 × Mem) := loopN (bX11_planAnywhere_10 n0) (fun _ _ _ _ => none) n0
def fX11_planAnywhere (n0 : Nat) (x1 : Int32) (x2 : Int32) (M : Mem) : Option (Int32 × Mem) :=
  bnd ((gI M (128 * (gR M 1) + 5)) - (1 : Int32)) fun x3_9 =>
  fX11_planAnywhere_10 n0 x1 x2 x3_9 M
theorem tbX11_planAnywhere_10 (n0 : Nat) (hO : OKc p (rmL 7) s m args meth c LX D cy ad cX11_planAnywhere RX11 4 7 (some .boolean)) (k10 : Int32 → Int32 → Int32 → Mem → Option (Int32 × Mem)) (hk10 : ∀ (x1 : Int32) (x2 : Int32) (x3 : Int32) (M : Mem), BL p l e (rmL 7) s m args below meth c LX D cy ad 4 (QI LX D cy ad) 10 [(0, .ref (ad 0)), (1, .int x1), (2, .int x2), (3, .int x3)] [] M (k10 x1 x2 x3 M)) (x1 : Int32) (x2 : Int32) (x3 : Int32) (M : Mem) : BL p l e (rmL 7) s m args below meth c LX D cy ad 4 (QI LX D cy ad) 10 [(0, .ref (ad 0)), (1, .int x1), (2, .int x2), (3, .int x3)] [] M (bX11_planAnywhere_10 n0 k10 x1 x2 x3 M) := by
  unfold bX11_planAnywhere_10
  refine b_iload_n hO dX11_planAnywhere_10 3 rfl rfl ?_
  refine b_if_lt hO dX11_planAnywhere_11 (tgt := 45) (by decide) ?_ ?_
  · refine b_iconst hO dX11_planAnywhere_45 ic_i_0 ?_
    exact b_zretc hO (Or.inl rfl) dX11_planAnywhere_46
  · refine b_aload_n hO dX11_planAnywhere_14 0 rfl rfl ?_
    refine b_get hO flX11_79 kLX_0 (v := .ref (ad 28)) rfl dX11_planAnywhere_15 ?_
    refine b_iload_n hO dX11_planAnywhere_18 3 rfl rfl ?_
    refine b_aload_n hO dX11_planAnywhere_19 0 rfl rfl ?_
    refine b_iload_n hO dX11_planAnywhere_20 3 rfl rfl ?_
    refine b_iload_n hO dX11_planAnywhere_21 1 rfl rfl ?_
    refine b_iload_n hO dX11_planAnywhere_22 2 rfl rfl ?_
    refine b_callVI hO mdX11_findGiving mvX11_findGiving w1011 (ci := 11) rfl rfl (by decide) kLX_0 (As := [.int _, .int _, .int _]) (st := [.int _, .ref _]) (ctX11_findGiving n0 hO.2.2.2.2.2.2.1 _ _ _ _) (Nat.le_of_ble_eq_true rfl) rfl rfl (Nat.le_of_ble_eq_true rfl) dX11_planAnywhere_23 (fun z23 => ?_)
    refine b_iast hO kLX_28 (n := 5) rfl dX11_planAnywhere_26 ?_
    refine b_bnd (fun M26 => ?_)
    refine b_aload_n hO dX11_planAnywhere_27 0 rfl rfl ?_
    refine b_get hO flX11_79 kLX_0 (v := .ref (ad 28)) rfl dX11_planAnywhere_28 ?_
    refine b_iload_n hO dX11_planAnywhere_31 3 rfl rfl ?_
    refine b_iald hO kLX_28 (n := 5) rfl dX11_planAnywhere_32 ?_
    refine b_iconst hO dX11_planAnywhere_33 ic_i_m1 ?_
    refine b_icmp_eq hO dX11_planAnywhere_34 (tgt := 39) (by decide) ?_ ?_
    · refine b_iinc hO dX11_planAnywhere_39 3 rfl ic_i_m1 (by decide) (lv' := [(3, .int _), (0, .ref _), (1, .int _), (2, .int _)]) rfl ?_
      refine b_goto hO dX11_planAnywhere_42 (tgt := 10) (by decide) ?_
      refine b_sub [1, 2, 3, 0] rfl ?_
      exact hk10 _ _ _ _
    · refine b_iconst hO dX11_planAnywhere_37 ic_i_1 ?_
      exact b_zretc hO (Or.inr rfl) dX11_planAnywhere_38
theorem lX11_planAnywhere_10 (n0 : Nat) (hO : OKc p (rmL 7) s m args meth c LX D cy ad cX11_planAnywhere RX11 4 7 (some .boolean)) : ∀ (w : Nat) (x1 : Int32) (x2 : Int32) (x3 : Int32) (M : Mem), BL p l e (rmL 7) s m args below meth c LX D cy ad 4 (QI LX D cy ad) 10 [(0, .ref (ad 0)), (1, .int x1), (2, .int x2), (3, .int x3)] [] M (loopN (bX11_planAnywhere_10 n0) (fun _ _ _ _ => none) w x1 x2 x3 M) := by
  intro w
  induction w with
  | zero =>
    intros
    exact b_none
  | succ w ih =>
    intro x1 x2 x3 M
    exact tbX11_planAnywhere_10 n0 hO _ ih x1 x2 x3 M
theorem tfX11_planAnywhere_10 (n0 : Nat) (hO : OKc p (rmL 7) s m args meth c LX D cy ad cX11_planAnywhere RX11 4 7 (some .boolean)) (x1 : Int32) (x2 : Int32) (x3 : Int32) (M : Mem) : BL p l e (rmL 7) s m args below meth c LX D cy ad 4 (QI LX D cy ad) 10 [(0, .ref (ad 0)), (1, .int x1), (2, .int x2), (3, .int x3)] [] M (fX11_planAnywhere_10 n0 x1 x2 x3 M) := lX11_planAnywhere_10 n0 hO n0 x1 x2 x3 M
theorem tfX11_planAnywhere (n0 : Nat) (hO : OKc p (rmL 7) s m args meth c LX D cy ad cX11_planAnywhere RX11 4 7 (some .boolean)) (x1 : Int32) (x2 : Int32) (M : Mem) : BL p l e (rmL 7) s m args below meth c LX D cy ad 4 (QI LX D cy ad) 0 [(0, .ref (ad 0)), (1, .int x1), (2, .int x2)] [] M (fX11_planAnywhere n0 x1 x2 M) := by
  unfold fX11_planAnywhere
  refine b_aload_n hO dX11_planAnywhere_0 0 rfl rfl ?_
  refine b_getR hO flX11_19 kLX_0 (id := 1) rfl rfl (rk := 9) rfl (by decide) dX11_planAnywhere_1 (fun hg1 => ?_)
  refine b_get hO flX11_139 hg1 (v := .int (gI _ (128 * (gR M 1) + 5))) rfl dX11_planAnywhere_4 ?_
  refine b_iconst hO dX11_planAnywhere_7 ic_i_1 ?_
  refine b_isub hO dX11_planAnywhere_8 ?_
  refine b_topI (fun x3_9 => ?_)
  refine b_istore_n hO dX11_planAnywhere_9 rfl (by decide) (lv' := [(3, .int _), (0, .ref _), (1, .int _), (2, .int _)]) rfl ?_
  refine b_sub [1, 2, 3, 0] rfl ?_
  exact tfX11_planAnywhere_10 n0 hO _ _ _ _
theorem ctX11_planAnywhere (n0 : Nat) (hI : Inj LX ad) (x1 : Int32) (x2 : Int32) (M : Mem) : CT l LX D cy ad yX11_planAnywhere cX11_planAnywhere 4 (some .boolean) 7 (QI LX D cy ad) [.ref (ad 0), .int x1, .int x2] M (fX11_planAnywhere n0 x1 x2 M) :=
  CT.mk LXok hI (by decide) (Nat.le_of_ble_eq_true rfl) (fun hO => tfX11_planAnywhere n0 hO x1 x2 M)
/-! X11_plan -/
def fX11_plan_94 (n0 : Nat) (x3 : Int32) (u0 : Int32) (M : Mem) : Option (Int32 × Mem) :=
  if u0 = 0 then
    some ((-1 : Int32), M)
  else
    if x3 = (-1 : Int32) then
      (fX11_countPlanned n0 M).bind fun z109 =>
      some (z109.1, z109.2)
    else
      if oob x3 5 then none else
      some ((gA M 28 (Int32.toNatClampNeg x3)), M)
def fX11_plan_89 (n0 : Nat) (x3 : Int32) (M : Mem) : Option (Int32 × Mem) :=
  fX11_plan_94 n0 x3 (1 : Int32) M
def fX11_plan_93 (n0 : Nat) (x3 : Int32) (M : Mem) : Option (Int32 × Mem) :=
  fX11_plan_94 n0 x3 (0 : Int32) M
def fX11_plan_55 (n0 : Nat) (x1 : Int32) (x2 : Int32) (x3 : Int32) (M : Mem) : Option (Int32 × Mem) :=
  (fX11_planNothing n0 x1 x2 M).bind fun z58 =>
  if z58.1 = 0 then
    (fX11_planNeeded n0 x1 x2 z58.2).bind fun z67 =>
    if z67.1 = 0 then
      fX11_plan_93 n0 x3 z67.2
    else
      (fX11_countPlanned n0 z67.2).bind fun z74 =>
      if 0 < z74.1 then
        fX11_plan_89 n0 x3 z74.2
      else
        (fX11_planAnywhere n0 x1 x2 z74.2).bind fun z83 =>
        if z83.1 = 0 then
          fX11_plan_93 n0 x3 z83.2
        else
          fX11_plan_89 n0 x3 z83.2
  else
    fX11_plan_89 n0 x3 z58.2
def fX11_plan (n0 : Nat) (x1 : Int32) (x2 : Int32) (x3 : Int32) (M : Mem) : Option (Int32 × Mem) :=
  if x1 < 0 then
    some ((-1 : Int32), M)
  else
    if ((1 : Int32) <<< ((gI M (128 * (gR M 1) + 12)) &&& 31)) ≤ x1 then
      some ((-1 : Int32), M)
    else
      if x2 < 0 then
        some ((-1 : Int32), M)
      else
        if (20 : Int32) < x2 then
          some ((-1 : Int32), M)
        else
          (fX11_isBeyond n0 x2 M).bind fun z29 =>
          if z29.1 = 0 then
            if x3 = (-1 : Int32) then
              fX11_plan_55 n0 x1 x2 x3 z29.2
            else
              (fX9_isCorner n0 (gR z29.2 1) x3 z29.2).bind fun z47 =>
              if z47.1 = 0 then
                some ((-1 : Int32), z47.2)
              else
                fX11_plan_55 n0 x1 x2 x3 z47.2
          else
            some ((-1 : Int32), z29.2)
theorem tfX11_plan_94 (n0 : Nat) (hO : OKc p (rmL 8) s m args meth c LX D cy ad cX11_plan RX11 5 8 (some .int)) (x3 : Int32) (u0 : Int32) (M : Mem) : BL p l e (rmL 8) s m args below meth c LX D cy ad 5 (QI LX D cy ad) 94 [(0, .ref (ad 0)), (3, .int x3)] [.int u0] M (fX11_plan_94 n0 x3 u0 M) := by
  unfold fX11_plan_94
  refine b_istore hO dX11_plan_94 (by decide) (lv' := [(4, .int _), (0, .ref _), (3, .int _)]) rfl ?_
  refine b_iload hO dX11_plan_96 0 rfl ?_
  refine b_if_ne hO dX11_plan_98 (tgt := 103) (by decide) ?_ ?_
  · refine b_iload_n hO dX11_plan_103 2 rfl rfl ?_
    refine b_iconst hO dX11_plan_104 ic_i_m1 ?_
    refine b_icmp_ne hO dX11_plan_105 (tgt := 115) (by decide) ?_ ?_
    · refine b_aload_n hO dX11_plan_115 1 rfl rfl ?_
      refine b_get hO flX11_79 kLX_0 (v := .ref (ad 28)) rfl dX11_plan_116 ?_
      refine b_iload_n hO dX11_plan_119 2 rfl rfl ?_
      refine b_iald hO kLX_28 (n := 5) rfl dX11_plan_120 ?_
      exact b_iret hO dX11_plan_121
    · refine b_aload_n hO dX11_plan_108 1 rfl rfl ?_
      refine b_callVI hO mdX11_countPlanned mvX11_countPlanned w1015 (ci := 11) rfl rfl (by decide) kLX_0 (As := []) (st := []) (ctX11_countPlanned n0 hO.2.2.2.2.2.2.1 _) (Nat.le_of_ble_eq_true rfl) rfl rfl (Nat.le_of_ble_eq_true rfl) dX11_plan_109 (fun z109 => ?_)
      refine b_goto hO dX11_plan_112 (tgt := 121) (by decide) ?_
      exact b_iret hO dX11_plan_121
  · refine b_iconst hO dX11_plan_101 ic_i_m1 ?_
    exact b_iret hO dX11_plan_102
theorem tfX11_plan_89 (n0 : Nat) (hO : OKc p (rmL 8) s m args meth c LX D cy ad cX11_plan RX11 5 8 (some .int)) (x3 : Int32) (M : Mem) : BL p l e (rmL 8) s m args below meth c LX D cy ad 5 (QI LX D cy ad) 89 [(0, .ref (ad 0)), (3, .int x3)] [] M (fX11_plan_89 n0 x3 M) := by
  unfold fX11_plan_89
  refine b_iconst hO dX11_plan_89 ic_i_1 ?_
  refine b_goto hO dX11_plan_90 (tgt := 94) (by decide) ?_
  exact tfX11_plan_94 n0 hO _ _ _
theorem tfX11_plan_93 (n0 : Nat) (hO : OKc p (rmL 8) s m args meth c LX D cy ad cX11_plan RX11 5 8 (some .int)) (x3 : Int32) (M : Mem) : BL p l e (rmL 8) s m args below meth c LX D cy ad 5 (QI LX D cy ad) 93 [(0, .ref (ad 0)), (3, .int x3)] [] M (fX11_plan_93 n0 x3 M) := by
  unfold fX11_plan_93
  refine b_iconst hO dX11_plan_93 ic_i_0 ?_
  exact tfX11_plan_94 n0 hO _ _ _
theorem tfX11_plan_55 (n0 : Nat) (hO : OKc p (rmL 8) s m args meth c LX D cy ad cX11_plan RX11 5 8 (some .int)) (x1 : Int32) (x2 : Int32) (x3 : Int32) (M : Mem) : BL p l e (rmL 8) s m args below meth c LX D cy ad 5 (QI LX D cy ad) 55 [(0, .ref (ad 0)), (1, .int x1), (2, .int x2), (3, .int x3)] [] M (fX11_plan_55 n0 x1 x2 x3 M) := by
  unfold fX11_plan_55
  refine b_aload_n hO dX11_plan_55 0 rfl rfl ?_
  refine b_iload_n hO dX11_plan_56 1 rfl rfl ?_
  refine b_iload_n hO dX11_plan_57 2 rfl rfl ?_
  refine b_callVI hO mdX11_planNothing mvX11_planNothing w991 (ci := 11) rfl rfl (by decide) kLX_0 (As := [.int _, .int _]) (st := []) (ctX11_planNothing n0 hO.2.2.2.2.2.2.1 _ _ _) (Nat.le_of_ble_eq_true rfl) rfl rfl (Nat.le_of_ble_eq_true rfl) dX11_plan_58 (fun z58 => ?_)
  refine b_if_ne hO dX11_plan_61 (tgt := 89) (by decide) ?_ ?_
  · refine b_sub [0, 3] rfl ?_
    exact tfX11_plan_89 n0 hO _ _
  · refine b_aload_n hO dX11_plan_64 0 rfl rfl ?_
    refine b_iload_n hO dX11_plan_65 1 rfl rfl ?_
    refine b_iload_n hO dX11_plan_66 2 rfl rfl ?_
    refine b_callVI hO mdX11_planNeeded mvX11_planNeeded w1007 (ci := 11) rfl rfl (by decide) kLX_0 (As := [.int _, .int _]) (st := []) (ctX11_planNeeded n0 hO.2.2.2.2.2.2.1 _ _ _) (Nat.le_of_ble_eq_true rfl) rfl rfl (Nat.le_of_ble_eq_true rfl) dX11_plan_67 (fun z67 => ?_)
    refine b_if_eq hO dX11_plan_70 (tgt := 93) (by decide) ?_ ?_
    · refine b_sub [0, 3] rfl ?_
      exact tfX11_plan_93 n0 hO _ _
    · refine b_aload_n hO dX11_plan_73 0 rfl rfl ?_
      refine b_callVI hO mdX11_countPlanned mvX11_countPlanned w1015 (ci := 11) rfl rfl (by decide) kLX_0 (As := []) (st := []) (ctX11_countPlanned n0 hO.2.2.2.2.2.2.1 _) (Nat.le_of_ble_eq_true rfl) rfl rfl (Nat.le_of_ble_eq_true rfl) dX11_plan_74 (fun z74 => ?_)
      refine b_if_gt hO dX11_plan_77 (tgt := 89) (by decide) ?_ ?_
      · refine b_sub [0, 3] rfl ?_
        exact tfX11_plan_89 n0 hO _ _
      · refine b_aload_n hO dX11_plan_80 0 rfl rfl ?_
        refine b_iload_n hO dX11_plan_81 1 rfl rfl ?_
        refine b_iload_n hO dX11_plan_82 2 rfl rfl ?_
        refine b_callVI hO mdX11_planAnywhere mvX11_planAnywhere w1019 (ci := 11) rfl rfl (by decide) kLX_0 (As := [.int _, .int _]) (st := []) (ctX11_planAnywhere n0 hO.2.2.2.2.2.2.1 _ _ _) (Nat.le_of_ble_eq_true rfl) rfl rfl (Nat.le_of_ble_eq_true rfl) dX11_plan_83 (fun z83 => ?_)
        refine b_if_eq hO dX11_plan_86 (tgt := 93) (by decide) ?_ ?_
        · refine b_sub [0, 3] rfl ?_
          exact tfX11_plan_93 n0 hO _ _
        · refine b_sub [0, 3] rfl ?_
          exact tfX11_plan_89 n0 hO _ _
theorem tfX11_plan (n0 : Nat) (hO : OKc p (rmL 8) s m args meth c LX D cy ad cX11_plan RX11 5 8 (some .int)) (x1 : Int32) (x2 : Int32) (x3 : Int32) (M : Mem) : BL p l e (rmL 8) s m args below meth c LX D cy ad 5 (QI LX D cy ad) 0 [(0, .ref (ad 0)), (1, .int x1), (2, .int x2), (3, .int x3)] [] M (fX11_plan n0 x1 x2 x3 M) := by
  unfold fX11_plan
  refine b_iload_n hO dX11_plan_0 1 rfl rfl ?_
  refine b_if_lt hO dX11_plan_1 (tgt := 35) (by decide) ?_ ?_
  · refine b_iconst hO dX11_plan_35 ic_i_m1 ?_
    exact b_iret hO dX11_plan_36
  · refine b_iload_n hO dX11_plan_4 1 rfl rfl ?_
    refine b_iconst hO dX11_plan_5 ic_i_1 ?_
    refine b_aload_n hO dX11_plan_6 0 rfl rfl ?_
    refine b_getR hO flX11_19 kLX_0 (id := 1) rfl rfl (rk := 9) rfl (by decide) dX11_plan_7 (fun hg1 => ?_)
    refine b_get hO flX11_145 hg1 (v := .int (gI _ (128 * (gR M 1) + 12))) rfl dX11_plan_10 ?_
    refine b_ishl hO dX11_plan_13 ?_
    refine b_icmp_ge hO dX11_plan_14 (tgt := 35) (by decide) ?_ ?_
    · refine b_iconst hO dX11_plan_35 ic_i_m1 ?_
      exact b_iret hO dX11_plan_36
    · refine b_iload_n hO dX11_plan_17 2 rfl rfl ?_
      refine b_if_lt hO dX11_plan_18 (tgt := 35) (by decide) ?_ ?_
      · refine b_iconst hO dX11_plan_35 ic_i_m1 ?_
        exact b_iret hO dX11_plan_36
      · refine b_iload_n hO dX11_plan_21 2 rfl rfl ?_
        refine b_bipush hO dX11_plan_22 ic_b_20 ?_
        refine b_icmp_gt hO dX11_plan_24 (tgt := 35) (by decide) ?_ ?_
        · refine b_iconst hO dX11_plan_35 ic_i_m1 ?_
          exact b_iret hO dX11_plan_36
        · refine b_aload_n hO dX11_plan_27 0 rfl rfl ?_
          refine b_iload_n hO dX11_plan_28 2 rfl rfl ?_
          refine b_callVI hO mdX11_isBeyond mvX11_isBeyond w962 (ci := 11) rfl rfl (by decide) kLX_0 (As := [.int _]) (st := []) (ctX11_isBeyond n0 hO.2.2.2.2.2.2.1 _ _) (Nat.le_of_ble_eq_true rfl) rfl rfl (Nat.le_of_ble_eq_true rfl) dX11_plan_29 (fun z29 => ?_)
          refine b_if_eq hO dX11_plan_32 (tgt := 37) (by decide) ?_ ?_
          · refine b_iload_n hO dX11_plan_37 3 rfl rfl ?_
            refine b_iconst hO dX11_plan_38 ic_i_m1 ?_
            refine b_icmp_eq hO dX11_plan_39 (tgt := 55) (by decide) ?_ ?_
            · exact tfX11_plan_55 n0 hO _ _ _ _
            · refine b_aload_n hO dX11_plan_42 0 rfl rfl ?_
              refine b_getR hO flX11_19 kLX_0 (id := 1) rfl rfl (rk := 9) rfl (by decide) dX11_plan_43 (fun hg2 => ?_)
              refine b_iload_n hO dX11_plan_46 3 rfl rfl ?_
              refine b_callVI hO mdX9_isCorner mvX9_isCorner w928 (ci := 9) rfl rfl (by decide) hg2 (As := [.int _]) (st := []) (ctX9_isCorner n0 _ hg2 hO.2.2.2.2.2.2.1 _ _) (Nat.le_of_ble_eq_true rfl) rfl rfl (Nat.le_of_ble_eq_true rfl) dX11_plan_47 (fun z47 => ?_)
              refine b_if_ne hO dX11_plan_50 (tgt := 55) (by decide) ?_ ?_
              · exact tfX11_plan_55 n0 hO _ _ _ _
              · refine b_iconst hO dX11_plan_53 ic_i_m1 ?_
                exact b_iret hO dX11_plan_54
          · refine b_iconst hO dX11_plan_35 ic_i_m1 ?_
            exact b_iret hO dX11_plan_36
theorem ctX11_plan (n0 : Nat) (hI : Inj LX ad) (x1 : Int32) (x2 : Int32) (x3 : Int32) (M : Mem) : CT l LX D cy ad yX11_plan cX11_plan 5 (some .int) 8 (QI LX D cy ad) [.ref (ad 0), .int x1, .int x2, .int x3] M (fX11_plan n0 x1 x2 x3 M) :=
  CT.mk LXok hI (by decide) (Nat.le_of_ble_eq_true rfl) (fun hO => tfX11_plan n0 hO x1 x2 x3 M)
/-! X11_countStaying -/
def bX11_countStaying_34 (n0 : Nat) (k34 : Int32 → Int32 → Mem → Option (Int32 × Mem)) (x3 : Int32) (x4 : Int32) (M : Mem) : Option (Int32 × Mem) :=
  if x3 < x4 then
    some (x3, M)
  else
    if oob x4 61 then none else
    if oob (0 : Int32) 61 then none else
    if (gA M 26 (Int32.toNatClampNeg x4)) = (gA M 26 (Int32.toNatClampNeg (0 : Int32))) then
      k34 x3 (x4 + (1 : Int32)) M
    else
      some ((x4 - (1 : Int32)), M)
def fX11_countStaying_34 (n0 : Nat) : Int32 → Int32 → Mem → Option (Int32 × Mem) := loopN (bX11_countStaying_34 n0) (fun _ _ _ => none) n0
def fX11_countStaying (n0 : Nat) (x1 : Int32) (x2 : Int32) (M : Mem) : Option (Int32 × Mem) :=
  (fX1_hold n0 x1 x2 (0 : Int32) (gI M 1281) M).bind fun z14 =>
  (fX1_foresee n0 26 (60 : Int32) z14).bind fun z27 =>
  fX11_countStaying_34 n0 z27.1 (1 : Int32) z27.2
theorem tbX11_countStaying_34 (n0 : Nat) (hO : OKc p (rmL 6) s m args meth c LX D cy ad cX11_countStaying RX11 5 6 (some .int)) (k34 : Int32 → Int32 → Mem → Option (Int32 × Mem)) (hk34 : ∀ (x3 : Int32) (x4 : Int32) (M : Mem), BL p l e (rmL 6) s m args below meth c LX D cy ad 5 (QI LX D cy ad) 34 [(0, .ref (ad 0)), (3, .int x3), (4, .int x4)] [] M (k34 x3 x4 M)) (x3 : Int32) (x4 : Int32) (M : Mem) : BL p l e (rmL 6) s m args below meth c LX D cy ad 5 (QI LX D cy ad) 34 [(0, .ref (ad 0)), (3, .int x3), (4, .int x4)] [] M (bX11_countStaying_34 n0 k34 x3 x4 M) := by
  unfold bX11_countStaying_34
  refine b_iload hO dX11_countStaying_34 2 rfl ?_
  refine b_iload_n hO dX11_countStaying_36 1 rfl rfl ?_
  refine b_icmp_gt hO dX11_countStaying_37 (tgt := 67) (by decide) ?_ ?_
  · refine b_iload_n hO dX11_countStaying_67 1 rfl rfl ?_
    exact b_iret hO dX11_countStaying_68
  · refine b_aload_n hO dX11_countStaying_40 0 rfl rfl ?_
    refine b_get hO flX11_72 kLX_0 (v := .ref (ad 26)) rfl dX11_countStaying_41 ?_
    refine b_iload hO dX11_countStaying_44 2 rfl ?_
    refine b_iald hO kLX_26 (n := 61) rfl dX11_countStaying_46 ?_
    refine b_aload_n hO dX11_countStaying_47 0 rfl rfl ?_
    refine b_get hO flX11_72 kLX_0 (v := .ref (ad 26)) rfl dX11_countStaying_48 ?_
    refine b_iconst hO dX11_countStaying_51 ic_i_0 ?_
    refine b_iald hO kLX_26 (n := 61) rfl dX11_countStaying_52 ?_
    refine b_icmp_eq hO dX11_countStaying_53 (tgt := 61) (by decide) ?_ ?_
    · refine b_iinc hO dX11_countStaying_61 2 rfl ic_i_1 (by decide) (lv' := [(4, .int _), (0, .ref _), (3, .int _)]) rfl ?_
      refine b_goto hO dX11_countStaying_64 (tgt := 34) (by decide) ?_
      refine b_sub [1, 2, 0] rfl ?_
      exact hk34 _ _ _
    · refine b_iload hO dX11_countStaying_56 2 rfl ?_
      refine b_iconst hO dX11_countStaying_58 ic_i_1 ?_
      refine b_isub hO dX11_countStaying_59 ?_
      exact b_iret hO dX11_countStaying_60
theorem lX11_countStaying_34 (n0 : Nat) (hO : OKc p (rmL 6) s m args meth c LX D cy ad cX11_countStaying RX11 5 6 (some .int)) : ∀ (w : Nat) (x3 : Int32) (x4 : Int32) (M : Mem), BL p l e (rmL 6) s m args below meth c LX D cy ad 5 (QI LX D cy ad) 34 [(0, .ref (ad 0)), (3, .int x3), (4, .int x4)] [] M (loopN (bX11_countStaying_34 n0) (fun _ _ _ => none) w x3 x4 M) := by
  intro w
  induction w with
  | zero =>
    intros
    exact b_none
  | succ w ih =>
    intro x3 x4 M
    exact tbX11_countStaying_34 n0 hO _ ih x3 x4 M
theorem tfX11_countStaying_34 (n0 : Nat) (hO : OKc p (rmL 6) s m args meth c LX D cy ad cX11_countStaying RX11 5 6 (some .int)) (x3 : Int32) (x4 : Int32) (M : Mem) : BL p l e (rmL 6) s m args below meth c LX D cy ad 5 (QI LX D cy ad) 34 [(0, .ref (ad 0)), (3, .int x3), (4, .int x4)] [] M (fX11_countStaying_34 n0 x3 x4 M) := lX11_countStaying_34 n0 hO n0 x3 x4 M
theorem tfX11_countStaying (n0 : Nat) (hO : OKc p (rmL 6) s m args meth c LX D cy ad cX11_countStaying RX11 5 6 (some .int)) (x1 : Int32) (x2 : Int32) (M : Mem) : BL p l e (rmL 6) s m args below meth c LX D cy ad 5 (QI LX D cy ad) 0 [(0, .ref (ad 0)), (1, .int x1), (2, .int x2)] [] M (fX11_countStaying n0 x1 x2 M) := by
  unfold fX11_countStaying
  refine b_aload_n hO dX11_countStaying_0 0 rfl rfl ?_
  refine b_get hO flX11_40 kLX_0 (v := .ref (ad 7)) rfl dX11_countStaying_1 ?_
  refine b_iload_n hO dX11_countStaying_4 1 rfl rfl ?_
  refine b_iload_n hO dX11_countStaying_5 2 rfl rfl ?_
  refine b_iconst hO dX11_countStaying_6 ic_i_0 ?_
  refine b_aload_n hO dX11_countStaying_7 0 rfl rfl ?_
  refine b_get hO flX11_47 kLX_0 (v := .ref (ad 10)) rfl dX11_countStaying_8 ?_
  refine b_get hO flX11_148 kLX_10 (v := .int (gI _ 1281)) rfl dX11_countStaying_11 ?_
  refine b_callVV hO mdX1_hold mvX1_hold w952 (ci := 1) rfl rfl (by decide) kLX_7 (As := [.int _, .int _, .int _, .int _]) (st := []) (ctX1_hold n0 hO.2.2.2.2.2.2.1 _ _ _ _ _) (Nat.le_of_ble_eq_true rfl) rfl rfl (Nat.le_of_ble_eq_true rfl) dX11_countStaying_14 (fun z14 => ?_)
  refine b_aload_n hO dX11_countStaying_17 0 rfl rfl ?_
  refine b_get hO flX11_40 kLX_0 (v := .ref (ad 7)) rfl dX11_countStaying_18 ?_
  refine b_aload_n hO dX11_countStaying_21 0 rfl rfl ?_
  refine b_get hO flX11_72 kLX_0 (v := .ref (ad 26)) rfl dX11_countStaying_22 ?_
  refine b_bipush hO dX11_countStaying_25 ic_b_60 ?_
  refine b_callVI hO mdX1_foresee mvX1_foresee w970 (ci := 1) rfl rfl (by decide) kLX_7 (As := [.ref _, .int _]) (st := []) (ctX1_foresee n0 _ kLX_26 hO.2.2.2.2.2.2.1 _ _) (Nat.le_of_ble_eq_true rfl) rfl rfl (Nat.le_of_ble_eq_true rfl) dX11_countStaying_27 (fun z27 => ?_)
  refine b_istore_n hO dX11_countStaying_30 rfl (by decide) (lv' := [(3, .int _), (0, .ref _), (1, .int _), (2, .int _)]) rfl ?_
  refine b_iconst hO dX11_countStaying_31 ic_i_1 ?_
  refine b_istore hO dX11_countStaying_32 (by decide) (lv' := [(4, .int _), (3, .int _), (0, .ref _), (1, .int _), (2, .int _)]) rfl ?_
  refine b_sub [2, 1, 0] rfl ?_
  exact tfX11_countStaying_34 n0 hO _ _ _
theorem ctX11_countStaying (n0 : Nat) (hI : Inj LX ad) (x1 : Int32) (x2 : Int32) (M : Mem) : CT l LX D cy ad yX11_countStaying cX11_countStaying 5 (some .int) 6 (QI LX D cy ad) [.ref (ad 0), .int x1, .int x2] M (fX11_countStaying n0 x1 x2 M) :=
  CT.mk LXok hI (by decide) (Nat.le_of_ble_eq_true rfl) (fun hO => tfX11_countStaying n0 hO x1 x2 M)
/-! X11_evening -/
def fX11_evening_75 (n0 : Nat) (k40 : Int32 → Int32 → Int32 → Int32 → Int32 → Mem → Option (Int32 × Mem)) (x1 : Int32) (x2 : Int32) (x3 : Int32) (x4 : Int32) (x5 : Int32) (M : Mem) : Option (Int32 × Mem) :=
  k40 x1 x2 x3 x4 (x5 + (1 : Int32)) M
def bX11_evening_40 (n0 : Nat) (k40 : Int32 → Int32 → Int32 → Int32 → Int32 → Mem → Option (Int32 × Mem)) (x1 : Int32) (x2 : Int32) (x3 : Int32) (x4 : Int32) (x5 : Int32) (M : Mem) : Option (Int32 × Mem) :=
  if (gI M (128 * (gR M 1) + 1)) ≤ x5 then
    if x2 = 0 then
      some (x3, M)
    else
      some (x4, M)
  else
    (fX11_countStaying n0 x1 x5 M).bind fun z56 =>
    if z56.1 ≤ x4 then
      fX11_evening_75 n0 k40 x1 x2 x3 x4 x5 z56.2
    else
      fX11_evening_75 n0 k40 x1 x2 x5 z56.1 x5 z56.2
def fX11_evening_40 (n0 : Nat) : Int32 → Int32 → Int32 → Int32 → Int32 → Mem → Option (Int32 × Mem) := loopN (bX11_evening_40 n0) (fun _ _ _ _ _ _ => none) n0
def fX11_evening (n0 : Nat) (x1 : Int32) (x2 : Int32) (M : Mem) : Option (Int32 × Mem) :=
  (fX9_isCorner n0 (gR M 1) x1 M).bind fun z5 =>
  if z5.1 = 0 then
    some ((-1 : Int32), z5.2)
  else
    if (gI z5.2 (128 * (gR z5.2 1) + 1)) = 0 then
      some ((-1 : Int32), z5.2)
    else
      if x2 < 0 then
        some ((-1 : Int32), z5.2)
      else
        if x2 ≤ (1 : Int32) then
          fX11_evening_40 n0 x1 x2 (0 : Int32) (-1 : Int32) (0 : Int32) z5.2
        else
          some ((-1 : Int32), z5.2)
theorem tfX11_evening_75 (n0 : Nat) (hO : OKc p (rmL 7) s m args meth c LX D cy ad cX11_evening RX11 7 7 (some .int)) (k40 : Int32 → Int32 → Int32 → Int32 → Int32 → Mem → Option (Int32 × Mem)) (hk40 : ∀ (x1 : Int32) (x2 : Int32) (x3 : Int32) (x4 : Int32) (x5 : Int32) (M : Mem), BL p l e (rmL 7) s m args below meth c LX D cy ad 7 (QI LX D cy ad) 40 [(0, .ref (ad 0)), (1, .int x1), (2, .int x2), (3, .int x3), (4, .int x4), (5, .int x5)] [] M (k40 x1 x2 x3 x4 x5 M)) (x1 : Int32) (x2 : Int32) (x3 : Int32) (x4 : Int32) (x5 : Int32) (M : Mem) : BL p l e (rmL 7) s m args below meth c LX D cy ad 7 (QI LX D cy ad) 75 [(0, .ref (ad 0)), (1, .int x1), (2, .int x2), (3, .int x3), (4, .int x4), (5, .int x5)] [] M (fX11_evening_75 n0 k40 x1 x2 x3 x4 x5 M) := by
  unfold fX11_evening_75
  refine b_iinc hO dX11_evening_75 5 rfl ic_i_1 (by decide) (lv' := [(5, .int _), (0, .ref _), (1, .int _), (2, .int _), (3, .int _), (4, .int _)]) rfl ?_
  refine b_goto hO dX11_evening_78 (tgt := 40) (by decide) ?_
  refine b_sub [1, 2, 3, 4, 5, 0] rfl ?_
  exact hk40 _ _ _ _ _ _
theorem tbX11_evening_40 (n0 : Nat) (hO : OKc p (rmL 7) s m args meth c LX D cy ad cX11_evening RX11 7 7 (some .int)) (k40 : Int32 → Int32 → Int32 → Int32 → Int32 → Mem → Option (Int32 × Mem)) (hk40 : ∀ (x1 : Int32) (x2 : Int32) (x3 : Int32) (x4 : Int32) (x5 : Int32) (M : Mem), BL p l e (rmL 7) s m args below meth c LX D cy ad 7 (QI LX D cy ad) 40 [(0, .ref (ad 0)), (1, .int x1), (2, .int x2), (3, .int x3), (4, .int x4), (5, .int x5)] [] M (k40 x1 x2 x3 x4 x5 M)) (x1 : Int32) (x2 : Int32) (x3 : Int32) (x4 : Int32) (x5 : Int32) (M : Mem) : BL p l e (rmL 7) s m args below meth c LX D cy ad 7 (QI LX D cy ad) 40 [(0, .ref (ad 0)), (1, .int x1), (2, .int x2), (3, .int x3), (4, .int x4), (5, .int x5)] [] M (bX11_evening_40 n0 k40 x1 x2 x3 x4 x5 M) := by
  unfold bX11_evening_40
  refine b_iload hO dX11_evening_40 5 rfl ?_
  refine b_aload_n hO dX11_evening_42 0 rfl rfl ?_
  refine b_getR hO flX11_19 kLX_0 (id := 1) rfl rfl (rk := 9) rfl (by decide) dX11_evening_43 (fun hg1 => ?_)
  refine b_get hO flX11_136 hg1 (v := .int (gI _ (128 * (gR M 1) + 1))) rfl dX11_evening_46 ?_
  refine b_icmp_ge hO dX11_evening_49 (tgt := 81) (by decide) ?_ ?_
  · refine b_iload_n hO dX11_evening_81 2 rfl rfl ?_
    refine b_if_ne hO dX11_evening_82 (tgt := 89) (by decide) ?_ ?_
    · refine b_iload hO dX11_evening_89 4 rfl ?_
      exact b_iret hO dX11_evening_91
    · refine b_iload_n hO dX11_evening_85 3 rfl rfl ?_
      refine b_goto hO dX11_evening_86 (tgt := 91) (by decide) ?_
      exact b_iret hO dX11_evening_91
  · refine b_aload_n hO dX11_evening_52 0 rfl rfl ?_
    refine b_iload_n hO dX11_evening_53 1 rfl rfl ?_
    refine b_iload hO dX11_evening_54 5 rfl ?_
    refine b_callVI hO mdX11_countStaying mvX11_countStaying w1027 (ci := 11) rfl rfl (by decide) kLX_0 (As := [.int _, .int _]) (st := []) (ctX11_countStaying n0 hO.2.2.2.2.2.2.1 _ _ _) (Nat.le_of_ble_eq_true rfl) rfl rfl (Nat.le_of_ble_eq_true rfl) dX11_evening_56 (fun z56 => ?_)
    refine b_istore hO dX11_evening_59 (by decide) (lv' := [(6, .int _), (0, .ref _), (1, .int _), (2, .int _), (3, .int _), (4, .int _), (5, .int _)]) rfl ?_
    refine b_iload hO dX11_evening_61 0 rfl ?_
    refine b_iload hO dX11_evening_63 5 rfl ?_
    refine b_icmp_le hO dX11_evening_65 (tgt := 75) (by decide) ?_ ?_
    · refine b_sub [1, 2, 3, 4, 5, 6] rfl ?_
      exact tfX11_evening_75 n0 hO k40 hk40 _ _ _ _ _ _
    · refine b_iload hO dX11_evening_68 6 rfl ?_
      refine b_istore_n hO dX11_evening_70 rfl (by decide) (lv' := [(3, .int _), (6, .int _), (0, .ref _), (1, .int _), (2, .int _), (4, .int _), (5, .int _)]) rfl ?_
      refine b_iload hO dX11_evening_71 1 rfl ?_
      refine b_istore hO dX11_evening_73 (by decide) (lv' := [(4, .int _), (3, .int _), (6, .int _), (0, .ref _), (1, .int _), (2, .int _), (5, .int _)]) rfl ?_
      refine b_sub [3, 4, 5, 1, 0, 6] rfl ?_
      exact tfX11_evening_75 n0 hO k40 hk40 _ _ _ _ _ _
theorem lX11_evening_40 (n0 : Nat) (hO : OKc p (rmL 7) s m args meth c LX D cy ad cX11_evening RX11 7 7 (some .int)) : ∀ (w : Nat) (x1 : Int32) (x2 : Int32) (x3 : Int32) (x4 : Int32) (x5 : Int32) (M : Mem), BL p l e (rmL 7) s m args below meth c LX D cy ad 7 (QI LX D cy ad) 40 [(0, .ref (ad 0)), (1, .int x1), (2, .int x2), (3, .int x3), (4, .int x4), (5, .int x5)] [] M (loopN (bX11_evening_40 n0) (fun _ _ _ _ _ _ => none) w x1 x2 x3 x4 x5 M) := by
  intro w
  induction w with
  | zero =>
    intros
    exact b_none
  | succ w ih =>
    intro x1 x2 x3 x4 x5 M
    exact tbX11_evening_40 n0 hO _ ih x1 x2 x3 x4 x5 M
theorem tfX11_evening_40 (n0 : Nat) (hO : OKc p (rmL 7) s m args meth c LX D cy ad cX11_evening RX11 7 7 (some .int)) (x1 : Int32) (x2 : Int32) (x3 : Int32) (x4 : Int32) (x5 : Int32) (M : Mem) : BL p l e (rmL 7) s m args below meth c LX D cy ad 7 (QI LX D cy ad) 40 [(0, .ref (ad 0)), (1, .int x1), (2, .int x2), (3, .int x3), (4, .int x4), (5, .int x5)] [] M (fX11_evening_40 n0 x1 x2 x3 x4 x5 M) := lX11_evening_40 n0 hO n0 x1 x2 x3 x4 x5 M
theorem tfX11_evening (n0 : Nat) (hO : OKc p (rmL 7) s m args meth c LX D cy ad cX11_evening RX11 7 7 (some .int)) (x1 : Int32) (x2 : Int32) (M : Mem) : BL p l e (rmL 7) s m args below meth c LX D cy ad 7 (QI LX D cy ad) 0 [(0, .ref (ad 0)), (1, .int x1), (2, .int x2)] [] M (fX11_evening n0 x1 x2 M) := by
  unfold fX11_evening
  refine b_aload_n hO dX11_evening_0 0 rfl rfl ?_
  refine b_getR hO flX11_19 kLX_0 (id := 1) rfl rfl (rk := 9) rfl (by decide) dX11_evening_1 (fun hg1 => ?_)
  refine b_iload_n hO dX11_evening_4 1 rfl rfl ?_
  refine b_callVI hO mdX9_isCorner mvX9_isCorner w928 (ci := 9) rfl rfl (by decide) hg1 (As := [.int _]) (st := []) (ctX9_isCorner n0 _ hg1 hO.2.2.2.2.2.2.1 _ _) (Nat.le_of_ble_eq_true rfl) rfl rfl (Nat.le_of_ble_eq_true rfl) dX11_evening_5 (fun z5 => ?_)
  refine b_if_eq hO dX11_evening_8 (tgt := 30) (by decide) ?_ ?_
  · refine b_iconst hO dX11_evening_30 ic_i_m1 ?_
    exact b_iret hO dX11_evening_31
  · refine b_aload_n hO dX11_evening_11 0 rfl rfl ?_
    refine b_getR hO flX11_19 kLX_0 (id := 1) rfl rfl (rk := 9) rfl (by decide) dX11_evening_12 (fun hg2 => ?_)
    refine b_get hO flX11_136 hg2 (v := .int (gI _ (128 * (gR z5.2 1) + 1))) rfl dX11_evening_15 ?_
    refine b_if_eq hO dX11_evening_18 (tgt := 30) (by decide) ?_ ?_
    · refine b_iconst hO dX11_evening_30 ic_i_m1 ?_
      exact b_iret hO dX11_evening_31
    · refine b_iload_n hO dX11_evening_21 2 rfl rfl ?_
      refine b_if_lt hO dX11_evening_22 (tgt := 30) (by decide) ?_ ?_
      · refine b_iconst hO dX11_evening_30 ic_i_m1 ?_
        exact b_iret hO dX11_evening_31
      · refine b_iload_n hO dX11_evening_25 2 rfl rfl ?_
        refine b_iconst hO dX11_evening_26 ic_i_1 ?_
        refine b_icmp_le hO dX11_evening_27 (tgt := 32) (by decide) ?_ ?_
        · refine b_iconst hO dX11_evening_32 ic_i_0 ?_
          refine b_istore_n hO dX11_evening_33 rfl (by decide) (lv' := [(3, .int _), (0, .ref _), (1, .int _), (2, .int _)]) rfl ?_
          refine b_iconst hO dX11_evening_34 ic_i_m1 ?_
          refine b_istore hO dX11_evening_35 (by decide) (lv' := [(4, .int _), (3, .int _), (0, .ref _), (1, .int _), (2, .int _)]) rfl ?_
          refine b_iconst hO dX11_evening_37 ic_i_0 ?_
          refine b_istore hO dX11_evening_38 (by decide) (lv' := [(5, .int _), (4, .int _), (3, .int _), (0, .ref _), (1, .int _), (2, .int _)]) rfl ?_
          refine b_sub [3, 4, 5, 2, 1, 0] rfl ?_
          exact tfX11_evening_40 n0 hO _ _ _ _ _ _
        · refine b_iconst hO dX11_evening_30 ic_i_m1 ?_
          exact b_iret hO dX11_evening_31
theorem ctX11_evening (n0 : Nat) (hI : Inj LX ad) (x1 : Int32) (x2 : Int32) (M : Mem) : CT l LX D cy ad yX11_evening cX11_evening 7 (some .int) 7 (QI LX D cy ad) [.ref (ad 0), .int x1, .int x2] M (fX11_evening n0 x1 x2 M) :=
  CT.mk LXok hI (by decide) (Nat.le_of_ble_eq_true rfl) (fun hO => tfX11_evening n0 hO x1 x2 M)
/-! X11_countRowsWithout -/
def fX11_countRowsWithout (n0 : Nat) (M : Mem) : Option (Int64 × Mem) :=
  bnd (((((100 : Int32) - (gI M (128 * (gR M 1) + 16)))).toInt64 * ((gI M (128 * (gR M 1) + 5))).toInt64) * ((gI M (128 * (gR M 1) + 1))).toInt64) fun y1_29 =>
  some ((y1_29 + ((((gI M (128 * (gR M 1) + 16))).toInt64 * (((gI M (128 * (gR M 1) + 5)) - (1 : Int32))).toInt64) * ((gI M (128 * (gR M 1) + 1))).toInt64)), M)
theorem tfX11_countRowsWithout (n0 : Nat) (hO : OKc p (rmL 1) s m args meth c LX D cy ad cX11_countRowsWithout RX11 3 1 (some .long)) (M : Mem) : BL p l e (rmL 1) s m args below meth c LX D cy ad 3 (QL LX D cy ad) 0 [(0, .ref (ad 0))] [] M (fX11_countRowsWithout n0 M) := by
  unfold fX11_countRowsWithout
  refine b_bipush hO dX11_countRowsWithout_0 ic_b_100 ?_
  refine b_aload_n hO dX11_countRowsWithout_2 0 rfl rfl ?_
  refine b_getR hO flX11_19 kLX_0 (id := 1) rfl rfl (rk := 9) rfl (by decide) dX11_countRowsWithout_3 (fun hg1 => ?_)
  refine b_get hO flX11_346 hg1 (v := .int (gI _ (128 * (gR M 1) + 16))) rfl dX11_countRowsWithout_6 ?_
  refine b_isub hO dX11_countRowsWithout_9 ?_
  refine b_i2l hO dX11_countRowsWithout_10 ?_
  refine b_aload_n hO dX11_countRowsWithout_11 0 rfl rfl ?_
  refine b_getR hO flX11_19 kLX_0 (id := 1) rfl rfl (rk := 9) rfl (by decide) dX11_countRowsWithout_12 (fun hg2 => ?_)
  refine b_get hO flX11_139 hg2 (v := .int (gI _ (128 * (gR M 1) + 5))) rfl dX11_countRowsWithout_15 ?_
  refine b_i2l hO dX11_countRowsWithout_18 ?_
  refine b_lmul hO dX11_countRowsWithout_19 ?_
  refine b_aload_n hO dX11_countRowsWithout_20 0 rfl rfl ?_
  refine b_getR hO flX11_19 kLX_0 (id := 1) rfl rfl (rk := 9) rfl (by decide) dX11_countRowsWithout_21 (fun hg3 => ?_)
  refine b_get hO flX11_136 hg3 (v := .int (gI _ (128 * (gR M 1) + 1))) rfl dX11_countRowsWithout_24 ?_
  refine b_i2l hO dX11_countRowsWithout_27 ?_
  refine b_lmul hO dX11_countRowsWithout_28 ?_
  refine b_topL (fun y1_29 => ?_)
  refine b_lstore_n hO dX11_countRowsWithout_29 rfl (by decide) (lv' := [(1, .long _), (0, .ref _)]) rfl ?_
  refine b_lload_n hO dX11_countRowsWithout_30 0 rfl rfl ?_
  refine b_aload_n hO dX11_countRowsWithout_31 1 rfl rfl ?_
  refine b_getR hO flX11_19 kLX_0 (id := 1) rfl rfl (rk := 9) rfl (by decide) dX11_countRowsWithout_32 (fun hg4 => ?_)
  refine b_get hO flX11_346 hg4 (v := .int (gI _ (128 * (gR M 1) + 16))) rfl dX11_countRowsWithout_35 ?_
  refine b_i2l hO dX11_countRowsWithout_38 ?_
  refine b_aload_n hO dX11_countRowsWithout_39 1 rfl rfl ?_
  refine b_getR hO flX11_19 kLX_0 (id := 1) rfl rfl (rk := 9) rfl (by decide) dX11_countRowsWithout_40 (fun hg5 => ?_)
  refine b_get hO flX11_139 hg5 (v := .int (gI _ (128 * (gR M 1) + 5))) rfl dX11_countRowsWithout_43 ?_
  refine b_iconst hO dX11_countRowsWithout_46 ic_i_1 ?_
  refine b_isub hO dX11_countRowsWithout_47 ?_
  refine b_i2l hO dX11_countRowsWithout_48 ?_
  refine b_lmul hO dX11_countRowsWithout_49 ?_
  refine b_aload_n hO dX11_countRowsWithout_50 1 rfl rfl ?_
  refine b_getR hO flX11_19 kLX_0 (id := 1) rfl rfl (rk := 9) rfl (by decide) dX11_countRowsWithout_51 (fun hg6 => ?_)
  refine b_get hO flX11_136 hg6 (v := .int (gI _ (128 * (gR M 1) + 1))) rfl dX11_countRowsWithout_54 ?_
  refine b_i2l hO dX11_countRowsWithout_57 ?_
  refine b_lmul hO dX11_countRowsWithout_58 ?_
  refine b_ladd hO dX11_countRowsWithout_59 ?_
  exact b_lret hO dX11_countRowsWithout_60
theorem ctX11_countRowsWithout (n0 : Nat) (hI : Inj LX ad) (M : Mem) : CT l LX D cy ad yX11_countRowsWithout cX11_countRowsWithout 3 (some .long) 1 (QL LX D cy ad) [.ref (ad 0)] M (fX11_countRowsWithout n0 M) :=
  CT.mk LXok hI (by decide) (Nat.le_of_ble_eq_true rfl) (fun hO => tfX11_countRowsWithout n0 hO M)
/-! X11_countRowsOfOne -/
def fX11_countRowsOfOne_88 (n0 : Nat) (k30 : Int32 → Int64 → Int32 → Mem → Option (Int64 × Mem)) (x1 : Int32) (y2 : Int64) (x4 : Int32) (M : Mem) : Option (Int64 × Mem) :=
  k30 x1 y2 (x4 + (1 : Int32)) M
def bX11_countRowsOfOne_30 (n0 : Nat) (k30 : Int32 → Int64 → Int32 → Mem → Option (Int64 × Mem)) (x1 : Int32) (y2 : Int64) (x4 : Int32) (M : Mem) : Option (Int64 × Mem) :=
  if (gI M (128 * (gR M 1) + 1)) ≤ x4 then
    some (y2, M)
  else
    (fX1_hold n0 (gI M 897) x4 (0 : Int32) (gI M 900) M).bind fun z63 =>
    (fX1_hourNow n0 z63).bind fun z70 =>
    if z70.1 = x1 then
      bnd (y2 + ((gI z70.2 (128 * (gR z70.2 1) + 16))).toInt64) fun y2_87 =>
      fX11_countRowsOfOne_88 n0 k30 x1 y2_87 x4 z70.2
    else
      fX11_countRowsOfOne_88 n0 k30 x1 y2 x4 z70.2
def fX11_countRowsOfOne_30 (n0 : Nat) : Int32 → Int64 → Int32 → Mem → Option (Int64 × Mem) := loopN (bX11_countRowsOfOne_30 n0) (fun _ _ _ _ => none) n0
def fX11_countRowsOfOne_26 (n0 : Nat) (x1 : Int32) (v0 : Int64) (M : Mem) : Option (Int64 × Mem) :=
  fX11_countRowsOfOne_30 n0 x1 v0 (0 : Int32) M
def fX11_countRowsOfOne (n0 : Nat) (x1 : Int32) (M : Mem) : Option (Int64 × Mem) :=
  (fX1_goOn n0 M).bind fun z4 =>
  (fX1_hourNow n0 z4).bind fun z11 =>
  if z11.1 = x1 then
    (fX11_countRowsWithout n0 z11.2).bind fun z19 =>
    fX11_countRowsOfOne_26 n0 x1 z19.1 z19.2
  else
    fX11_countRowsOfOne_26 n0 x1 (0 : Int64) z11.2
theorem tfX11_countRowsOfOne_88 (n0 : Nat) (hO : OKc p (rmL 5) s m args meth c LX D cy ad cX11_countRowsOfOne RX11 5 5 (some .long)) (k30 : Int32 → Int64 → Int32 → Mem → Option (Int64 × Mem)) (hk30 : ∀ (x1 : Int32) (y2 : Int64) (x4 : Int32) (M : Mem), BL p l e (rmL 5) s m args below meth c LX D cy ad 5 (QL LX D cy ad) 30 [(0, .ref (ad 0)), (1, .int x1), (2, .long y2), (4, .int x4)] [] M (k30 x1 y2 x4 M)) (x1 : Int32) (y2 : Int64) (x4 : Int32) (M : Mem) : BL p l e (rmL 5) s m args below meth c LX D cy ad 5 (QL LX D cy ad) 88 [(0, .ref (ad 0)), (1, .int x1), (2, .long y2), (4, .int x4)] [] M (fX11_countRowsOfOne_88 n0 k30 x1 y2 x4 M) := by
  unfold fX11_countRowsOfOne_88
  refine b_iinc hO dX11_countRowsOfOne_88 3 rfl ic_i_1 (by decide) (lv' := [(4, .int _), (0, .ref _), (1, .int _), (2, .long _)]) rfl ?_
  refine b_goto hO dX11_countRowsOfOne_91 (tgt := 30) (by decide) ?_
  refine b_sub [1, 2, 3, 0] rfl ?_
  exact hk30 _ _ _ _
theorem tbX11_countRowsOfOne_30 (n0 : Nat) (hO : OKc p (rmL 5) s m args meth c LX D cy ad cX11_countRowsOfOne RX11 5 5 (some .long)) (k30 : Int32 → Int64 → Int32 → Mem → Option (Int64 × Mem)) (hk30 : ∀ (x1 : Int32) (y2 : Int64) (x4 : Int32) (M : Mem), BL p l e (rmL 5) s m args below meth c LX D cy ad 5 (QL LX D cy ad) 30 [(0, .ref (ad 0)), (1, .int x1), (2, .long y2), (4, .int x4)] [] M (k30 x1 y2 x4 M)) (x1 : Int32) (y2 : Int64) (x4 : Int32) (M : Mem) : BL p l e (rmL 5) s m args below meth c LX D cy ad 5 (QL LX D cy ad) 30 [(0, .ref (ad 0)), (1, .int x1), (2, .long y2), (4, .int x4)] [] M (bX11_countRowsOfOne_30 n0 k30 x1 y2 x4 M) := by
  unfold bX11_countRowsOfOne_30
  refine b_iload hO dX11_countRowsOfOne_30 3 rfl ?_
  refine b_aload_n hO dX11_countRowsOfOne_32 0 rfl rfl ?_
  refine b_getR hO flX11_19 kLX_0 (id := 1) rfl rfl (rk := 9) rfl (by decide) dX11_countRowsOfOne_33 (fun hg1 => ?_)
  refine b_get hO flX11_136 hg1 (v := .int (gI _ (128 * (gR M 1) + 1))) rfl dX11_countRowsOfOne_36 ?_
  refine b_icmp_ge hO dX11_countRowsOfOne_39 (tgt := 94) (by decide) ?_ ?_
  · refine b_lload_n hO dX11_countRowsOfOne_94 2 rfl rfl ?_
    exact b_lret hO dX11_countRowsOfOne_95
  · refine b_aload_n hO dX11_countRowsOfOne_42 0 rfl rfl ?_
    refine b_get hO flX11_40 kLX_0 (v := .ref (ad 7)) rfl dX11_countRowsOfOne_43 ?_
    refine b_aload_n hO dX11_countRowsOfOne_46 0 rfl rfl ?_
    refine b_get hO flX11_40 kLX_0 (v := .ref (ad 7)) rfl dX11_countRowsOfOne_47 ?_
    refine b_get hO flX11_355 kLX_7 (v := .int (gI _ 897)) rfl dX11_countRowsOfOne_50 ?_
    refine b_iload hO dX11_countRowsOfOne_53 3 rfl ?_
    refine b_iconst hO dX11_countRowsOfOne_55 ic_i_0 ?_
    refine b_aload_n hO dX11_countRowsOfOne_56 0 rfl rfl ?_
    refine b_get hO flX11_40 kLX_0 (v := .ref (ad 7)) rfl dX11_countRowsOfOne_57 ?_
    refine b_get hO flX11_358 kLX_7 (v := .int (gI _ 900)) rfl dX11_countRowsOfOne_60 ?_
    refine b_callVV hO mdX1_hold mvX1_hold w952 (ci := 1) rfl rfl (by decide) kLX_7 (As := [.int _, .int _, .int _, .int _]) (st := []) (ctX1_hold n0 hO.2.2.2.2.2.2.1 _ _ _ _ _) (Nat.le_of_ble_eq_true rfl) rfl rfl (Nat.le_of_ble_eq_true rfl) dX11_countRowsOfOne_63 (fun z63 => ?_)
    refine b_aload_n hO dX11_countRowsOfOne_66 0 rfl rfl ?_
    refine b_get hO flX11_40 kLX_0 (v := .ref (ad 7)) rfl dX11_countRowsOfOne_67 ?_
    refine b_callVI hO mdX1_hourNow mvX1_hourNow w953 (ci := 1) rfl rfl (by decide) kLX_7 (As := []) (st := []) (ctX1_hourNow n0 hO.2.2.2.2.2.2.1 _) (Nat.le_of_ble_eq_true rfl) rfl rfl (Nat.le_of_ble_eq_true rfl) dX11_countRowsOfOne_70 (fun z70 => ?_)
    refine b_iload_n hO dX11_countRowsOfOne_73 1 rfl rfl ?_
    refine b_icmp_ne hO dX11_countRowsOfOne_74 (tgt := 88) (by decide) ?_ ?_
    · exact tfX11_countRowsOfOne_88 n0 hO k30 hk30 _ _ _ _
    · refine b_lload_n hO dX11_countRowsOfOne_77 2 rfl rfl ?_
      refine b_aload_n hO dX11_countRowsOfOne_78 0 rfl rfl ?_
      refine b_getR hO flX11_19 kLX_0 (id := 1) rfl rfl (rk := 9) rfl (by decide) dX11_countRowsOfOne_79 (fun hg2 => ?_)
      refine b_get hO flX11_346 hg2 (v := .int (gI _ (128 * (gR z70.2 1) + 16))) rfl dX11_countRowsOfOne_82 ?_
      refine b_i2l hO dX11_countRowsOfOne_85 ?_
      refine b_ladd hO dX11_countRowsOfOne_86 ?_
      refine b_topL (fun y2_87 => ?_)
      refine b_lstore_n hO dX11_countRowsOfOne_87 rfl (by decide) (lv' := [(2, .long _), (0, .ref _), (1, .int _), (4, .int _)]) rfl ?_
      refine b_sub [1, 2, 0, 3] rfl ?_
      exact tfX11_countRowsOfOne_88 n0 hO k30 hk30 _ _ _ _
theorem lX11_countRowsOfOne_30 (n0 : Nat) (hO : OKc p (rmL 5) s m args meth c LX D cy ad cX11_countRowsOfOne RX11 5 5 (some .long)) : ∀ (w : Nat) (x1 : Int32) (y2 : Int64) (x4 : Int32) (M : Mem), BL p l e (rmL 5) s m args below meth c LX D cy ad 5 (QL LX D cy ad) 30 [(0, .ref (ad 0)), (1, .int x1), (2, .long y2), (4, .int x4)] [] M (loopN (bX11_countRowsOfOne_30 n0) (fun _ _ _ _ => none) w x1 y2 x4 M) := by
  intro w
  induction w with
  | zero =>
    intros
    exact b_none
  | succ w ih =>
    intro x1 y2 x4 M
    exact tbX11_countRowsOfOne_30 n0 hO _ ih x1 y2 x4 M
theorem tfX11_countRowsOfOne_30 (n0 : Nat) (hO : OKc p (rmL 5) s m args meth c LX D cy ad cX11_countRowsOfOne RX11 5 5 (some .long)) (x1 : Int32) (y2 : Int64) (x4 : Int32) (M : Mem) : BL p l e (rmL 5) s m args below meth c LX D cy ad 5 (QL LX D cy ad) 30 [(0, .ref (ad 0)), (1, .int x1), (2, .long y2), (4, .int x4)] [] M (fX11_countRowsOfOne_30 n0 x1 y2 x4 M) := lX11_countRowsOfOne_30 n0 hO n0 x1 y2 x4 M
theorem tfX11_countRowsOfOne_26 (n0 : Nat) (hO : OKc p (rmL 5) s m args meth c LX D cy ad cX11_countRowsOfOne RX11 5 5 (some .long)) (x1 : Int32) (v0 : Int64) (M : Mem) : BL p l e (rmL 5) s m args below meth c LX D cy ad 5 (QL LX D cy ad) 26 [(0, .ref (ad 0)), (1, .int x1)] [.long v0] M (fX11_countRowsOfOne_26 n0 x1 v0 M) := by
  unfold fX11_countRowsOfOne_26
  refine b_lstore_n hO dX11_countRowsOfOne_26 rfl (by decide) (lv' := [(2, .long _), (0, .ref _), (1, .int _)]) rfl ?_
  refine b_iconst hO dX11_countRowsOfOne_27 ic_i_0 ?_
  refine b_istore hO dX11_countRowsOfOne_28 (by decide) (lv' := [(4, .int _), (2, .long _), (0, .ref _), (1, .int _)]) rfl ?_
  refine b_sub [2, 3, 1, 0] rfl ?_
  exact tfX11_countRowsOfOne_30 n0 hO _ _ _ _
theorem tfX11_countRowsOfOne (n0 : Nat) (hO : OKc p (rmL 5) s m args meth c LX D cy ad cX11_countRowsOfOne RX11 5 5 (some .long)) (x1 : Int32) (M : Mem) : BL p l e (rmL 5) s m args below meth c LX D cy ad 5 (QL LX D cy ad) 0 [(0, .ref (ad 0)), (1, .int x1)] [] M (fX11_countRowsOfOne n0 x1 M) := by
  unfold fX11_countRowsOfOne
  refine b_aload_n hO dX11_countRowsOfOne_0 0 rfl rfl ?_
  refine b_get hO flX11_40 kLX_0 (v := .ref (ad 7)) rfl dX11_countRowsOfOne_1 ?_
  refine b_callVV hO mdX1_goOn mvX1_goOn w1041 (ci := 1) rfl rfl (by decide) kLX_7 (As := []) (st := []) (ctX1_goOn n0 hO.2.2.2.2.2.2.1 _) (Nat.le_of_ble_eq_true rfl) rfl rfl (Nat.le_of_ble_eq_true rfl) dX11_countRowsOfOne_4 (fun z4 => ?_)
  refine b_aload_n hO dX11_countRowsOfOne_7 0 rfl rfl ?_
  refine b_get hO flX11_40 kLX_0 (v := .ref (ad 7)) rfl dX11_countRowsOfOne_8 ?_
  refine b_callVI hO mdX1_hourNow mvX1_hourNow w953 (ci := 1) rfl rfl (by decide) kLX_7 (As := []) (st := []) (ctX1_hourNow n0 hO.2.2.2.2.2.2.1 _) (Nat.le_of_ble_eq_true rfl) rfl rfl (Nat.le_of_ble_eq_true rfl) dX11_countRowsOfOne_11 (fun z11 => ?_)
  refine b_iload_n hO dX11_countRowsOfOne_14 1 rfl rfl ?_
  refine b_icmp_ne hO dX11_countRowsOfOne_15 (tgt := 25) (by decide) ?_ ?_
  · refine b_lconst hO dX11_countRowsOfOne_25 (v := 0) rfl ?_
    exact tfX11_countRowsOfOne_26 n0 hO _ _ _
  · refine b_aload_n hO dX11_countRowsOfOne_18 0 rfl rfl ?_
    refine b_callVL hO mdX11_countRowsWithout mvX11_countRowsWithout w1042 (ci := 11) rfl rfl (by decide) kLX_0 (As := []) (st := []) (ctX11_countRowsWithout n0 hO.2.2.2.2.2.2.1 _) (Nat.le_of_ble_eq_true rfl) rfl rfl (Nat.le_of_ble_eq_true rfl) dX11_countRowsOfOne_19 (fun z19 => ?_)
    refine b_goto hO dX11_countRowsOfOne_22 (tgt := 26) (by decide) ?_
    exact tfX11_countRowsOfOne_26 n0 hO _ _ _
theorem ctX11_countRowsOfOne (n0 : Nat) (hI : Inj LX ad) (x1 : Int32) (M : Mem) : CT l LX D cy ad yX11_countRowsOfOne cX11_countRowsOfOne 5 (some .long) 5 (QL LX D cy ad) [.ref (ad 0), .int x1] M (fX11_countRowsOfOne n0 x1 M) :=
  CT.mk LXok hI (by decide) (Nat.le_of_ble_eq_true rfl) (fun hO => tfX11_countRowsOfOne n0 hO x1 M)
/-! X11_countRowsOfTwo -/
def bX11_countRowsOfTwo_38 (n0 : Nat) (k38 : Int32 → Int32 → Int32 → Int64 → Int32 → Mem → Option (Int64 × Mem)) (x1 : Int32) (x2 : Int32) (x3 : Int32) (y4 : Int64) (x6 : Int32) (M : Mem) : Option (Int64 × Mem) :=
  if (gI M (128 * (gR M 1) + 1)) ≤ x6 then
    some (y4, M)
  else
    (fX1_hold n0 x2 x6 (0 : Int32) x3 M).bind fun z59 =>
    (fX11_countRowsOfOne n0 x1 z59).bind fun z74 =>
    bnd (y4 + (((gI z59 (128 * (gR z59 1) + 16))).toInt64 * z74.1)) fun y4_79 =>
    k38 x1 x2 x3 y4_79 (x6 + (1 : Int32)) z74.2
def fX11_countRowsOfTwo_38 (n0 : Nat) : Int32 → Int32 → Int32 → Int64 → Int32 → Mem → Option (Int64 × Mem) := loopN (bX11_countRowsOfTwo_38 n0) (fun _ _ _ _ _ _ => none) n0
def fX11_countRowsOfTwo (n0 : Nat) (x1 : Int32) (M : Mem) : Option (Int64 × Mem) :=
  bnd (gI M 897) fun x2_7 =>
  (fX1_goOn n0 M).bind fun z12 =>
  bnd (gI z12 900) fun x3_22 =>
  (fX11_countRowsWithout n0 z12).bind fun z24 =>
  (fX11_countRowsOfOne n0 x1 z24.2).bind fun z29 =>
  bnd (z24.1 * z29.1) fun y4_33 =>
  fX11_countRowsOfTwo_38 n0 x1 x2_7 x3_22 y4_33 (0 : Int32) z29.2
theorem tbX11_countRowsOfTwo_38 (n0 : Nat) (hO : OKc p (rmL 6) s m args meth c LX D cy ad cX11_countRowsOfTwo RX11 7 6 (some .long)) (k38 : Int32 → Int32 → Int32 → Int64 → Int32 → Mem → Option (Int64 × Mem)) (hk38 : ∀ (x1 : Int32) (x2 : Int32) (x3 : Int32) (y4 : Int64) (x6 : Int32) (M : Mem), BL p l e (rmL 6) s m args below meth c LX D cy ad 7 (QL LX D cy ad) 38 [(0, .ref (ad 0)), (1, .int x1), (2, .int x2), (3, .int x3), (4, .long y4), (6, .int x6)] [] M (k38 x1 x2 x3 y4 x6 M)) (x1 : Int32) (x2 : Int32) (x3 : Int32) (y4 : Int64) (x6 : Int32) (M : Mem) : BL p l e (rmL 6) s m args below meth c LX D cy ad 7 (QL LX D cy ad) 38 [(0, .ref (ad 0)), (1, .int x1), (2, .int x2), (3, .int x3), (4, .long y4), (6, .int x6)] [] M (bX11_countRowsOfTwo_38 n0 k38 x1 x2 x3 y4 x6 M) := by
  unfold bX11_countRowsOfTwo_38
  refine b_iload hO dX11_countRowsOfTwo_38 5 rfl ?_
  refine b_aload_n hO dX11_countRowsOfTwo_40 0 rfl rfl ?_
  refine b_getR hO flX11_19 kLX_0 (id := 1) rfl rfl (rk := 9) rfl (by decide) dX11_countRowsOfTwo_41 (fun hg1 => ?_)
  refine b_get hO flX11_136 hg1 (v := .int (gI _ (128 * (gR M 1) + 1))) rfl dX11_countRowsOfTwo_44 ?_
  refine b_icmp_ge hO dX11_countRowsOfTwo_47 (tgt := 87) (by decide) ?_ ?_
  · refine b_lload hO dX11_countRowsOfTwo_87 4 rfl ?_
    exact b_lret hO dX11_countRowsOfTwo_89
  · refine b_aload_n hO dX11_countRowsOfTwo_50 0 rfl rfl ?_
    refine b_get hO flX11_40 kLX_0 (v := .ref (ad 7)) rfl dX11_countRowsOfTwo_51 ?_
    refine b_iload_n hO dX11_countRowsOfTwo_54 2 rfl rfl ?_
    refine b_iload hO dX11_countRowsOfTwo_55 5 rfl ?_
    refine b_iconst hO dX11_countRowsOfTwo_57 ic_i_0 ?_
    refine b_iload_n hO dX11_countRowsOfTwo_58 3 rfl rfl ?_
    refine b_callVV hO mdX1_hold mvX1_hold w952 (ci := 1) rfl rfl (by decide) kLX_7 (As := [.int _, .int _, .int _, .int _]) (st := []) (ctX1_hold n0 hO.2.2.2.2.2.2.1 _ _ _ _ _) (Nat.le_of_ble_eq_true rfl) rfl rfl (Nat.le_of_ble_eq_true rfl) dX11_countRowsOfTwo_59 (fun z59 => ?_)
    refine b_lload hO dX11_countRowsOfTwo_62 4 rfl ?_
    refine b_aload_n hO dX11_countRowsOfTwo_64 0 rfl rfl ?_
    refine b_getR hO flX11_19 kLX_0 (id := 1) rfl rfl (rk := 9) rfl (by decide) dX11_countRowsOfTwo_65 (fun hg2 => ?_)
    refine b_get hO flX11_346 hg2 (v := .int (gI _ (128 * (gR z59 1) + 16))) rfl dX11_countRowsOfTwo_68 ?_
    refine b_i2l hO dX11_countRowsOfTwo_71 ?_
    refine b_aload_n hO dX11_countRowsOfTwo_72 0 rfl rfl ?_
    refine b_iload_n hO dX11_countRowsOfTwo_73 1 rfl rfl ?_
    refine b_callVL hO mdX11_countRowsOfOne mvX11_countRowsOfOne w1037 (ci := 11) rfl rfl (by decide) kLX_0 (As := [.int _]) (st := [.long _, .long _]) (ctX11_countRowsOfOne n0 hO.2.2.2.2.2.2.1 _ _) (Nat.le_of_ble_eq_true rfl) rfl rfl (Nat.le_of_ble_eq_true rfl) dX11_countRowsOfTwo_74 (fun z74 => ?_)
    refine b_lmul hO dX11_countRowsOfTwo_77 ?_
    refine b_ladd hO dX11_countRowsOfTwo_78 ?_
    refine b_topL (fun y4_79 => ?_)
    refine b_lstore hO dX11_countRowsOfTwo_79 (by decide) (lv' := [(4, .long _), (0, .ref _), (1, .int _), (2, .int _), (3, .int _), (6, .int _)]) rfl ?_
    refine b_iinc hO dX11_countRowsOfTwo_81 5 rfl ic_i_1 (by decide) (lv' := [(6, .int _), (4, .long _), (0, .ref _), (1, .int _), (2, .int _), (3, .int _)]) rfl ?_
    refine b_goto hO dX11_countRowsOfTwo_84 (tgt := 38) (by decide) ?_
    refine b_sub [2, 3, 4, 5, 1, 0] rfl ?_
    exact hk38 _ _ _ _ _ _
theorem lX11_countRowsOfTwo_38 (n0 : Nat) (hO : OKc p (rmL 6) s m args meth c LX D cy ad cX11_countRowsOfTwo RX11 7 6 (some .long)) : ∀ (w : Nat) (x1 : Int32) (x2 : Int32) (x3 : Int32) (y4 : Int64) (x6 : Int32) (M : Mem), BL p l e (rmL 6) s m args below meth c LX D cy ad 7 (QL LX D cy ad) 38 [(0, .ref (ad 0)), (1, .int x1), (2, .int x2), (3, .int x3), (4, .long y4), (6, .int x6)] [] M (loopN (bX11_countRowsOfTwo_38 n0) (fun _ _ _ _ _ _ => none) w x1 x2 x3 y4 x6 M) := by
  intro w
  induction w with
  | zero =>
    intros
    exact b_none
  | succ w ih =>
    intro x1 x2 x3 y4 x6 M
    exact tbX11_countRowsOfTwo_38 n0 hO _ ih x1 x2 x3 y4 x6 M
theorem tfX11_countRowsOfTwo_38 (n0 : Nat) (hO : OKc p (rmL 6) s m args meth c LX D cy ad cX11_countRowsOfTwo RX11 7 6 (some .long)) (x1 : Int32) (x2 : Int32) (x3 : Int32) (y4 : Int64) (x6 : Int32) (M : Mem) : BL p l e (rmL 6) s m args below meth c LX D cy ad 7 (QL LX D cy ad) 38 [(0, .ref (ad 0)), (1, .int x1), (2, .int x2), (3, .int x3), (4, .long y4), (6, .int x6)] [] M (fX11_countRowsOfTwo_38 n0 x1 x2 x3 y4 x6 M) := lX11_countRowsOfTwo_38 n0 hO n0 x1 x2 x3 y4 x6 M
theorem tfX11_countRowsOfTwo (n0 : Nat) (hO : OKc p (rmL 6) s m args meth c LX D cy ad cX11_countRowsOfTwo RX11 7 6 (some .long)) (x1 : Int32) (M : Mem) : BL p l e (rmL 6) s m args below meth c LX D cy ad 7 (QL LX D cy ad) 0 [(0, .ref (ad 0)), (1, .int x1)] [] M (fX11_countRowsOfTwo n0 x1 M) := by
  unfold fX11_countRowsOfTwo
  refine b_aload_n hO dX11_countRowsOfTwo_0 0 rfl rfl ?_
  refine b_get hO flX11_40 kLX_0 (v := .ref (ad 7)) rfl dX11_countRowsOfTwo_1 ?_
  refine b_get hO flX11_355 kLX_7 (v := .int (gI _ 897)) rfl dX11_countRowsOfTwo_4 ?_
  refine b_topI (fun x2_7 => ?_)
  refine b_istore_n hO dX11_countRowsOfTwo_7 rfl (by decide) (lv' := [(2, .int _), (0, .ref _), (1, .int _)]) rfl ?_
  refine b_aload_n hO dX11_countRowsOfTwo_8 1 rfl rfl ?_
  refine b_get hO flX11_40 kLX_0 (v := .ref (ad 7)) rfl dX11_countRowsOfTwo_9 ?_
  refine b_callVV hO mdX1_goOn mvX1_goOn w1041 (ci := 1) rfl rfl (by decide) kLX_7 (As := []) (st := []) (ctX1_goOn n0 hO.2.2.2.2.2.2.1 _) (Nat.le_of_ble_eq_true rfl) rfl rfl (Nat.le_of_ble_eq_true rfl) dX11_countRowsOfTwo_12 (fun z12 => ?_)
  refine b_aload_n hO dX11_countRowsOfTwo_15 1 rfl rfl ?_
  refine b_get hO flX11_40 kLX_0 (v := .ref (ad 7)) rfl dX11_countRowsOfTwo_16 ?_
  refine b_get hO flX11_358 kLX_7 (v := .int (gI _ 900)) rfl dX11_countRowsOfTwo_19 ?_
  refine b_topI (fun x3_22 => ?_)
  refine b_istore_n hO dX11_countRowsOfTwo_22 rfl (by decide) (lv' := [(3, .int _), (2, .int _), (0, .ref _), (1, .int _)]) rfl ?_
  refine b_aload_n hO dX11_countRowsOfTwo_23 2 rfl rfl ?_
  refine b_callVL hO mdX11_countRowsWithout mvX11_countRowsWithout w1042 (ci := 11) rfl rfl (by decide) kLX_0 (As := []) (st := []) (ctX11_countRowsWithout n0 hO.2.2.2.2.2.2.1 _) (Nat.le_of_ble_eq_true rfl) rfl rfl (Nat.le_of_ble_eq_true rfl) dX11_countRowsOfTwo_24 (fun z24 => ?_)
  refine b_aload_n hO dX11_countRowsOfTwo_27 2 rfl rfl ?_
  refine b_iload_n hO dX11_countRowsOfTwo_28 3 rfl rfl ?_
  refine b_callVL hO mdX11_countRowsOfOne mvX11_countRowsOfOne w1037 (ci := 11) rfl rfl (by decide) kLX_0 (As := [.int _]) (st := [.long _]) (ctX11_countRowsOfOne n0 hO.2.2.2.2.2.2.1 _ _) (Nat.le_of_ble_eq_true rfl) rfl rfl (Nat.le_of_ble_eq_true rfl) dX11_countRowsOfTwo_29 (fun z29 => ?_)
  refine b_lmul hO dX11_countRowsOfTwo_32 ?_
  refine b_topL (fun y4_33 => ?_)
  refine b_lstore hO dX11_countRowsOfTwo_33 (by decide) (lv' := [(4, .long _), (3, .int _), (2, .int _), (0, .ref _), (1, .int _)]) rfl ?_
  refine b_iconst hO dX11_countRowsOfTwo_35 ic_i_0 ?_
  refine b_istore hO dX11_countRowsOfTwo_36 (by decide) (lv' := [(6, .int _), (4, .long _), (3, .int _), (2, .int _), (0, .ref _), (1, .int _)]) rfl ?_
  refine b_sub [4, 5, 3, 2, 1, 0] rfl ?_
  exact tfX11_countRowsOfTwo_38 n0 hO _ _ _ _ _ _
theorem ctX11_countRowsOfTwo (n0 : Nat) (hI : Inj LX ad) (x1 : Int32) (M : Mem) : CT l LX D cy ad yX11_countRowsOfTwo cX11_countRowsOfTwo 7 (some .long) 6 (QL LX D cy ad) [.ref (ad 0), .int x1] M (fX11_countRowsOfTwo n0 x1 M) :=
  CT.mk LXok hI (by decide) (Nat.le_of_ble_eq_true rfl) (fun hO => tfX11_countRowsOfTwo n0 hO x1 M)
/-! X11_odds -/
def fX11_odds (n0 : Nat) (x1 : Int32) (x2 : Int32) (x3 : Int32) (M : Mem) : Option (Int64 × Mem) :=
  (fX9_isCorner n0 (gR M 1) x1 M).bind fun z5 =>
  if z5.1 = 0 then
    some ((-1 : Int64), z5.2)
  else
    if (gI z5.2 (128 * (gR z5.2 1) + 1)) = 0 then
      some ((-1 : Int64), z5.2)
    else
      if x3 < (1 : Int32) then
        some ((-1 : Int64), z5.2)
      else
        if (2 : Int32) < x3 then
          some ((-1 : Int64), z5.2)
        else
          (fX11_isBeyond n0 x3 z5.2).bind fun z33 =>
          if z33.1 = 0 then
            if x2 < (-1 : Int32) then
              some ((-1 : Int64), z33.2)
            else
              if x2 ≤ (23 : Int32) then
                if x2 = (-1 : Int32) then
                  bnd (((100 : Int64) * ((gI z33.2 (128 * (gR z33.2 1) + 5))).toInt64) * ((gI z33.2 (128 * (gR z33.2 1) + 1))).toInt64) fun y4_84 =>
                  if x3 = (1 : Int32) then
                    some (y4_84, z33.2)
                  else
                    some ((y4_84 * y4_84), z33.2)
                else
                  (fX11_lookAt n0 x1 z33.2).bind fun z104 =>
                  if x3 = (1 : Int32) then
                    (fX11_countRowsOfOne n0 x2 z104).bind fun z114 =>
                    some (z114.1, z114.2)
                  else
                    (fX11_countRowsOfTwo n0 x2 z104).bind fun z122 =>
                    some (z122.1, z122.2)
              else
                some ((-1 : Int64), z33.2)
          else
            some ((-1 : Int64), z33.2)
theorem tfX11_odds (n0 : Nat) (hO : OKc p (rmL 7) s m args meth c LX D cy ad cX11_odds RX11 6 7 (some .long)) (x1 : Int32) (x2 : Int32) (x3 : Int32) (M : Mem) : BL p l e (rmL 7) s m args below meth c LX D cy ad 6 (QL LX D cy ad) 0 [(0, .ref (ad 0)), (1, .int x1), (2, .int x2), (3, .int x3)] [] M (fX11_odds n0 x1 x2 x3 M) := by
  unfold fX11_odds
  refine b_aload_n hO dX11_odds_0 0 rfl rfl ?_
  refine b_getR hO flX11_19 kLX_0 (id := 1) rfl rfl (rk := 9) rfl (by decide) dX11_odds_1 (fun hg1 => ?_)
  refine b_iload_n hO dX11_odds_4 1 rfl rfl ?_
  refine b_callVI hO mdX9_isCorner mvX9_isCorner w928 (ci := 9) rfl rfl (by decide) hg1 (As := [.int _]) (st := []) (ctX9_isCorner n0 _ hg1 hO.2.2.2.2.2.2.1 _ _) (Nat.le_of_ble_eq_true rfl) rfl rfl (Nat.le_of_ble_eq_true rfl) dX11_odds_5 (fun z5 => ?_)
  refine b_if_eq hO dX11_odds_8 (tgt := 39) (by decide) ?_ ?_
  · refine b_ldc2 hO w1035 dX11_odds_39 ?_
    exact b_lret hO dX11_odds_42
  · refine b_aload_n hO dX11_odds_11 0 rfl rfl ?_
    refine b_getR hO flX11_19 kLX_0 (id := 1) rfl rfl (rk := 9) rfl (by decide) dX11_odds_12 (fun hg2 => ?_)
    refine b_get hO flX11_136 hg2 (v := .int (gI _ (128 * (gR z5.2 1) + 1))) rfl dX11_odds_15 ?_
    refine b_if_eq hO dX11_odds_18 (tgt := 39) (by decide) ?_ ?_
    · refine b_ldc2 hO w1035 dX11_odds_39 ?_
      exact b_lret hO dX11_odds_42
    · refine b_iload_n hO dX11_odds_21 3 rfl rfl ?_
      refine b_iconst hO dX11_odds_22 ic_i_1 ?_
      refine b_icmp_lt hO dX11_odds_23 (tgt := 39) (by decide) ?_ ?_
      · refine b_ldc2 hO w1035 dX11_odds_39 ?_
        exact b_lret hO dX11_odds_42
      · refine b_iload_n hO dX11_odds_26 3 rfl rfl ?_
        refine b_iconst hO dX11_odds_27 ic_i_2 ?_
        refine b_icmp_gt hO dX11_odds_28 (tgt := 39) (by decide) ?_ ?_
        · refine b_ldc2 hO w1035 dX11_odds_39 ?_
          exact b_lret hO dX11_odds_42
        · refine b_aload_n hO dX11_odds_31 0 rfl rfl ?_
          refine b_iload_n hO dX11_odds_32 3 rfl rfl ?_
          refine b_callVI hO mdX11_isBeyond mvX11_isBeyond w962 (ci := 11) rfl rfl (by decide) kLX_0 (As := [.int _]) (st := []) (ctX11_isBeyond n0 hO.2.2.2.2.2.2.1 _ _) (Nat.le_of_ble_eq_true rfl) rfl rfl (Nat.le_of_ble_eq_true rfl) dX11_odds_33 (fun z33 => ?_)
          refine b_if_eq hO dX11_odds_36 (tgt := 43) (by decide) ?_ ?_
          · refine b_iload_n hO dX11_odds_43 2 rfl rfl ?_
            refine b_iconst hO dX11_odds_44 ic_i_m1 ?_
            refine b_icmp_lt hO dX11_odds_45 (tgt := 54) (by decide) ?_ ?_
            · refine b_ldc2 hO w1035 dX11_odds_54 ?_
              exact b_lret hO dX11_odds_57
            · refine b_iload_n hO dX11_odds_48 2 rfl rfl ?_
              refine b_bipush hO dX11_odds_49 ic_b_23 ?_
              refine b_icmp_le hO dX11_odds_51 (tgt := 58) (by decide) ?_ ?_
              · refine b_iload_n hO dX11_odds_58 2 rfl rfl ?_
                refine b_iconst hO dX11_odds_59 ic_i_m1 ?_
                refine b_icmp_ne hO dX11_odds_60 (tgt := 102) (by decide) ?_ ?_
                · refine b_aload_n hO dX11_odds_102 0 rfl rfl ?_
                  refine b_iload_n hO dX11_odds_103 1 rfl rfl ?_
                  refine b_callVV hO mdX11_lookAt mvX11_lookAt w948 (ci := 11) rfl rfl (by decide) kLX_0 (As := [.int _]) (st := []) (ctX11_lookAt n0 hO.2.2.2.2.2.2.1 _ _) (Nat.le_of_ble_eq_true rfl) rfl rfl (Nat.le_of_ble_eq_true rfl) dX11_odds_104 (fun z104 => ?_)
                  refine b_iload_n hO dX11_odds_107 3 rfl rfl ?_
                  refine b_iconst hO dX11_odds_108 ic_i_1 ?_
                  refine b_icmp_ne hO dX11_odds_109 (tgt := 120) (by decide) ?_ ?_
                  · refine b_aload_n hO dX11_odds_120 0 rfl rfl ?_
                    refine b_iload_n hO dX11_odds_121 2 rfl rfl ?_
                    refine b_callVL hO mdX11_countRowsOfTwo mvX11_countRowsOfTwo w1046 (ci := 11) rfl rfl (by decide) kLX_0 (As := [.int _]) (st := []) (ctX11_countRowsOfTwo n0 hO.2.2.2.2.2.2.1 _ _) (Nat.le_of_ble_eq_true rfl) rfl rfl (Nat.le_of_ble_eq_true rfl) dX11_odds_122 (fun z122 => ?_)
                    exact b_lret hO dX11_odds_125
                  · refine b_aload_n hO dX11_odds_112 0 rfl rfl ?_
                    refine b_iload_n hO dX11_odds_113 2 rfl rfl ?_
                    refine b_callVL hO mdX11_countRowsOfOne mvX11_countRowsOfOne w1037 (ci := 11) rfl rfl (by decide) kLX_0 (As := [.int _]) (st := []) (ctX11_countRowsOfOne n0 hO.2.2.2.2.2.2.1 _ _) (Nat.le_of_ble_eq_true rfl) rfl rfl (Nat.le_of_ble_eq_true rfl) dX11_odds_114 (fun z114 => ?_)
                    refine b_goto hO dX11_odds_117 (tgt := 125) (by decide) ?_
                    exact b_lret hO dX11_odds_125
                · refine b_ldc2 hO w1036 dX11_odds_63 ?_
                  refine b_aload_n hO dX11_odds_66 0 rfl rfl ?_
                  refine b_getR hO flX11_19 kLX_0 (id := 1) rfl rfl (rk := 9) rfl (by decide) dX11_odds_67 (fun hg3 => ?_)
                  refine b_get hO flX11_139 hg3 (v := .int (gI _ (128 * (gR z33.2 1) + 5))) rfl dX11_odds_70 ?_
                  refine b_i2l hO dX11_odds_73 ?_
                  refine b_lmul hO dX11_odds_74 ?_
                  refine b_aload_n hO dX11_odds_75 0 rfl rfl ?_
                  refine b_getR hO flX11_19 kLX_0 (id := 1) rfl rfl (rk := 9) rfl (by decide) dX11_odds_76 (fun hg4 => ?_)
                  refine b_get hO flX11_136 hg4 (v := .int (gI _ (128 * (gR z33.2 1) + 1))) rfl dX11_odds_79 ?_
                  refine b_i2l hO dX11_odds_82 ?_
                  refine b_lmul hO dX11_odds_83 ?_
                  refine b_topL (fun y4_84 => ?_)
                  refine b_lstore hO dX11_odds_84 (by decide) (lv' := [(4, .long _), (0, .ref _), (1, .int _), (2, .int _), (3, .int _)]) rfl ?_
                  refine b_iload_n hO dX11_odds_86 4 rfl rfl ?_
                  refine b_iconst hO dX11_odds_87 ic_i_1 ?_
                  refine b_icmp_ne hO dX11_odds_88 (tgt := 96) (by decide) ?_ ?_
                  · refine b_lload hO dX11_odds_96 0 rfl ?_
                    refine b_lload hO dX11_odds_98 0 rfl ?_
                    refine b_lmul hO dX11_odds_100 ?_
                    exact b_lret hO dX11_odds_101
                  · refine b_lload hO dX11_odds_91 0 rfl ?_
                    refine b_goto hO dX11_odds_93 (tgt := 101) (by decide) ?_
                    exact b_lret hO dX11_odds_101
              · refine b_ldc2 hO w1035 dX11_odds_54 ?_
                exact b_lret hO dX11_odds_57
          · refine b_ldc2 hO w1035 dX11_odds_39 ?_
            exact b_lret hO dX11_odds_42
theorem ctX11_odds (n0 : Nat) (hI : Inj LX ad) (x1 : Int32) (x2 : Int32) (x3 : Int32) (M : Mem) : CT l LX D cy ad yX11_odds cX11_odds 6 (some .long) 7 (QL LX D cy ad) [.ref (ad 0), .int x1, .int x2, .int x3] M (fX11_odds n0 x1 x2 x3 M) :=
  CT.mk LXok hI (by decide) (Nat.le_of_ble_eq_true rfl) (fun hO => tfX11_odds n0 hO x1 x2 x3 M)
/-! X11_way -/
def fX11_way (n0 : Nat) (x1 : Int32) (x2 : Int32) (M : Mem) : Option (Int32 × Mem) :=
  (fX9_isCorner n0 (gR M 1) x1 M).bind fun z5 =>
  if z5.1 = 0 then
    some ((-1 : Int32), z5.2)
  else
    (fX9_isCorner n0 (gR z5.2 1) x2 z5.2).bind fun z16 =>
    if z16.1 = 0 then
      some ((-1 : Int32), z16.2)
    else
      (fX10_stepsOf n0 (gR z16.2 1) x1 x2 z16.2).bind fun z34 =>
      some (z34.1, z34.2)
theorem tfX11_way (n0 : Nat) (hO : OKc p (rmL 3) s m args meth c LX D cy ad cX11_way RX11 3 3 (some .int)) (x1 : Int32) (x2 : Int32) (M : Mem) : BL p l e (rmL 3) s m args below meth c LX D cy ad 3 (QI LX D cy ad) 0 [(0, .ref (ad 0)), (1, .int x1), (2, .int x2)] [] M (fX11_way n0 x1 x2 M) := by
  unfold fX11_way
  refine b_aload_n hO dX11_way_0 0 rfl rfl ?_
  refine b_getR hO flX11_19 kLX_0 (id := 1) rfl rfl (rk := 9) rfl (by decide) dX11_way_1 (fun hg1 => ?_)
  refine b_iload_n hO dX11_way_4 1 rfl rfl ?_
  refine b_callVI hO mdX9_isCorner mvX9_isCorner w928 (ci := 9) rfl rfl (by decide) hg1 (As := [.int _]) (st := []) (ctX9_isCorner n0 _ hg1 hO.2.2.2.2.2.2.1 _ _) (Nat.le_of_ble_eq_true rfl) rfl rfl (Nat.le_of_ble_eq_true rfl) dX11_way_5 (fun z5 => ?_)
  refine b_if_eq hO dX11_way_8 (tgt := 22) (by decide) ?_ ?_
  · refine b_iconst hO dX11_way_22 ic_i_m1 ?_
    exact b_iret hO dX11_way_23
  · refine b_aload_n hO dX11_way_11 0 rfl rfl ?_
    refine b_getR hO flX11_19 kLX_0 (id := 1) rfl rfl (rk := 9) rfl (by decide) dX11_way_12 (fun hg2 => ?_)
    refine b_iload_n hO dX11_way_15 2 rfl rfl ?_
    refine b_callVI hO mdX9_isCorner mvX9_isCorner w928 (ci := 9) rfl rfl (by decide) hg2 (As := [.int _]) (st := []) (ctX9_isCorner n0 _ hg2 hO.2.2.2.2.2.2.1 _ _) (Nat.le_of_ble_eq_true rfl) rfl rfl (Nat.le_of_ble_eq_true rfl) dX11_way_16 (fun z16 => ?_)
    refine b_if_ne hO dX11_way_19 (tgt := 24) (by decide) ?_ ?_
    · refine b_aload_n hO dX11_way_24 0 rfl rfl ?_
      refine b_get hO flX11_61 kLX_0 (v := .ref (ad 18)) rfl dX11_way_25 ?_
      refine b_aload_n hO dX11_way_28 0 rfl rfl ?_
      refine b_getR hO flX11_19 kLX_0 (id := 1) rfl rfl (rk := 9) rfl (by decide) dX11_way_29 (fun hg3 => ?_)
      refine b_iload_n hO dX11_way_32 1 rfl rfl ?_
      refine b_iload_n hO dX11_way_33 2 rfl rfl ?_
      refine b_callVI hO mdX10_stepsOf mvX10_stepsOf w1054 (ci := 10) rfl rfl (by decide) kLX_18 (As := [.ref _, .int _, .int _]) (st := []) (ctX10_stepsOf n0 _ hg3 hO.2.2.2.2.2.2.1 _ _ _) (Nat.le_of_ble_eq_true rfl) rfl rfl (Nat.le_of_ble_eq_true rfl) dX11_way_34 (fun z34 => ?_)
      exact b_iret hO dX11_way_37
    · refine b_iconst hO dX11_way_22 ic_i_m1 ?_
      exact b_iret hO dX11_way_23
theorem ctX11_way (n0 : Nat) (hI : Inj LX ad) (x1 : Int32) (x2 : Int32) (M : Mem) : CT l LX D cy ad yX11_way cX11_way 3 (some .int) 3 (QI LX D cy ad) [.ref (ad 0), .int x1, .int x2] M (fX11_way n0 x1 x2 M) :=
  CT.mk LXok hI (by decide) (Nat.le_of_ble_eq_true rfl) (fun hO => tfX11_way n0 hO x1 x2 M)
/-! X11_arrive -/
def fX11_arrive (n0 : Nat) (x1 : Int32) (x2 : Int32) (M : Mem) : Option (Int32 × Mem) :=
  (fX9_isCorner n0 (gR M 1) x1 M).bind fun z5 =>
  if z5.1 = 0 then
    some ((-1 : Int32), z5.2)
  else
    (fX9_isCorner n0 (gR z5.2 1) x2 z5.2).bind fun z16 =>
    if z16.1 = 0 then
      some ((-1 : Int32), z16.2)
    else
      (fX10_stepsOf n0 (gR z16.2 1) x1 x2 z16.2).bind fun z34 =>
      if z34.1 = (-1 : Int32) then
        some ((-1 : Int32), z34.2)
      else
        if (60 : Int32) < z34.1 then
          some ((-1 : Int32), z34.2)
        else
          (fX11_isBeyond n0 z34.1 z34.2).bind fun z51 =>
          if z51.1 = 0 then
            (fX11_foresee n0 26 x2 z34.1 z51.2).bind fun z66 =>
            if oob z34.1 61 then none else
            some ((gA z66.2 26 (Int32.toNatClampNeg z34.1)), z66.2)
          else
            some ((-1 : Int32), z51.2)
theorem tfX11_arrive (n0 : Nat) (hO : OKc p (rmL 7) s m args meth c LX D cy ad cX11_arrive RX11 4 7 (some .int)) (x1 : Int32) (x2 : Int32) (M : Mem) : BL p l e (rmL 7) s m args below meth c LX D cy ad 4 (QI LX D cy ad) 0 [(0, .ref (ad 0)), (1, .int x1), (2, .int x2)] [] M (fX11_arrive n0 x1 x2 M) := by
  unfold fX11_arrive
  refine b_aload_n hO dX11_arrive_0 0 rfl rfl ?_
  refine b_getR hO flX11_19 kLX_0 (id := 1) rfl rfl (rk := 9) rfl (by decide) dX11_arrive_1 (fun hg1 => ?_)
  refine b_iload_n hO dX11_arrive_4 1 rfl rfl ?_
  refine b_callVI hO mdX9_isCorner mvX9_isCorner w928 (ci := 9) rfl rfl (by decide) hg1 (As := [.int _]) (st := []) (ctX9_isCorner n0 _ hg1 hO.2.2.2.2.2.2.1 _ _) (Nat.le_of_ble_eq_true rfl) rfl rfl (Nat.le_of_ble_eq_true rfl) dX11_arrive_5 (fun z5 => ?_)
  refine b_if_eq hO dX11_arrive_8 (tgt := 22) (by decide) ?_ ?_
  · refine b_iconst hO dX11_arrive_22 ic_i_m1 ?_
    exact b_iret hO dX11_arrive_23
  · refine b_aload_n hO dX11_arrive_11 0 rfl rfl ?_
    refine b_getR hO flX11_19 kLX_0 (id := 1) rfl rfl (rk := 9) rfl (by decide) dX11_arrive_12 (fun hg2 => ?_)
    refine b_iload_n hO dX11_arrive_15 2 rfl rfl ?_
    refine b_callVI hO mdX9_isCorner mvX9_isCorner w928 (ci := 9) rfl rfl (by decide) hg2 (As := [.int _]) (st := []) (ctX9_isCorner n0 _ hg2 hO.2.2.2.2.2.2.1 _ _) (Nat.le_of_ble_eq_true rfl) rfl rfl (Nat.le_of_ble_eq_true rfl) dX11_arrive_16 (fun z16 => ?_)
    refine b_if_ne hO dX11_arrive_19 (tgt := 24) (by decide) ?_ ?_
    · refine b_aload_n hO dX11_arrive_24 0 rfl rfl ?_
      refine b_get hO flX11_61 kLX_0 (v := .ref (ad 18)) rfl dX11_arrive_25 ?_
      refine b_aload_n hO dX11_arrive_28 0 rfl rfl ?_
      refine b_getR hO flX11_19 kLX_0 (id := 1) rfl rfl (rk := 9) rfl (by decide) dX11_arrive_29 (fun hg3 => ?_)
      refine b_iload_n hO dX11_arrive_32 1 rfl rfl ?_
      refine b_iload_n hO dX11_arrive_33 2 rfl rfl ?_
      refine b_callVI hO mdX10_stepsOf mvX10_stepsOf w1054 (ci := 10) rfl rfl (by decide) kLX_18 (As := [.ref _, .int _, .int _]) (st := []) (ctX10_stepsOf n0 _ hg3 hO.2.2.2.2.2.2.1 _ _ _) (Nat.le_of_ble_eq_true rfl) rfl rfl (Nat.le_of_ble_eq_true rfl) dX11_arrive_34 (fun z34 => ?_)
      refine b_istore_n hO dX11_arrive_37 rfl (by decide) (lv' := [(3, .int _), (0, .ref _), (1, .int _), (2, .int _)]) rfl ?_
      refine b_iload_n hO dX11_arrive_38 0 rfl rfl ?_
      refine b_iconst hO dX11_arrive_39 ic_i_m1 ?_
      refine b_icmp_eq hO dX11_arrive_40 (tgt := 57) (by decide) ?_ ?_
      · refine b_iconst hO dX11_arrive_57 ic_i_m1 ?_
        exact b_iret hO dX11_arrive_58
      · refine b_iload_n hO dX11_arrive_43 0 rfl rfl ?_
        refine b_bipush hO dX11_arrive_44 ic_b_60 ?_
        refine b_icmp_gt hO dX11_arrive_46 (tgt := 57) (by decide) ?_ ?_
        · refine b_iconst hO dX11_arrive_57 ic_i_m1 ?_
          exact b_iret hO dX11_arrive_58
        · refine b_aload_n hO dX11_arrive_49 1 rfl rfl ?_
          refine b_iload_n hO dX11_arrive_50 0 rfl rfl ?_
          refine b_callVI hO mdX11_isBeyond mvX11_isBeyond w962 (ci := 11) rfl rfl (by decide) kLX_0 (As := [.int _]) (st := []) (ctX11_isBeyond n0 hO.2.2.2.2.2.2.1 _ _) (Nat.le_of_ble_eq_true rfl) rfl rfl (Nat.le_of_ble_eq_true rfl) dX11_arrive_51 (fun z51 => ?_)
          refine b_if_eq hO dX11_arrive_54 (tgt := 59) (by decide) ?_ ?_
          · refine b_aload_n hO dX11_arrive_59 1 rfl rfl ?_
            refine b_iload_n hO dX11_arrive_60 3 rfl rfl ?_
            refine b_aload_n hO dX11_arrive_61 1 rfl rfl ?_
            refine b_get hO flX11_72 kLX_0 (v := .ref (ad 26)) rfl dX11_arrive_62 ?_
            refine b_iload_n hO dX11_arrive_65 0 rfl rfl ?_
            refine b_callVI hO mdX11_foresee mvX11_foresee w966 (ci := 11) rfl rfl (by decide) kLX_0 (As := [.int _, .ref _, .int _]) (st := []) (ctX11_foresee n0 _ kLX_26 hO.2.2.2.2.2.2.1 _ _ _) (Nat.le_of_ble_eq_true rfl) rfl rfl (Nat.le_of_ble_eq_true rfl) dX11_arrive_66 (fun z66 => ?_)
            refine b_pop hO dX11_arrive_69 rfl ?_
            refine b_aload_n hO dX11_arrive_70 1 rfl rfl ?_
            refine b_get hO flX11_72 kLX_0 (v := .ref (ad 26)) rfl dX11_arrive_71 ?_
            refine b_iload_n hO dX11_arrive_74 0 rfl rfl ?_
            refine b_iald hO kLX_26 (n := 61) rfl dX11_arrive_75 ?_
            exact b_iret hO dX11_arrive_76
          · refine b_iconst hO dX11_arrive_57 ic_i_m1 ?_
            exact b_iret hO dX11_arrive_58
    · refine b_iconst hO dX11_arrive_22 ic_i_m1 ?_
      exact b_iret hO dX11_arrive_23
theorem ctX11_arrive (n0 : Nat) (hI : Inj LX ad) (x1 : Int32) (x2 : Int32) (M : Mem) : CT l LX D cy ad yX11_arrive cX11_arrive 4 (some .int) 7 (QI LX D cy ad) [.ref (ad 0), .int x1, .int x2] M (fX11_arrive n0 x1 x2 M) :=
  CT.mk LXok hI (by decide) (Nat.le_of_ble_eq_true rfl) (fun hO => tfX11_arrive n0 hO x1 x2 M)
/-! X11_early -/
def fX11_early_73 (n0 : Nat) (k39 : Int32 → Int32 → Int32 → Mem → Option (Int32 × Mem)) (x1 : Int32) (x2 : Int32) (x3 : Int32) (M : Mem) : Option (Int32 × Mem) :=
  k39 x1 x2 (x3 + (1 : Int32)) M
def bX11_early_39 (n0 : Nat) (k39 : Int32 → Int32 → Int32 → Mem → Option (Int32 × Mem)) (x1 : Int32) (x2 : Int32) (x3 : Int32) (M : Mem) : Option (Int32 × Mem) :=
  if x2 < x3 then
    some ((-1 : Int32), M)
  else
    (fX10_canBeAt n0 x1 x3 M).bind fun z50 =>
    if z50.1 = 0 then
      fX11_early_73 n0 k39 x1 x2 x3 z50.2
    else
      if oob x3 61 then none else
      if oob (0 : Int32) 61 then none else
      if (gA z50.2 26 (Int32.toNatClampNeg (0 : Int32))) ≤ (gA z50.2 26 (Int32.toNatClampNeg x3)) then
        fX11_early_73 n0 k39 x1 x2 x3 z50.2
      else
        some (x3, z50.2)
def fX11_early_39 (n0 : Nat) : Int32 → Int32 → Int32 → Mem → Option (Int32 × Mem) := loopN (bX11_early_39 n0) (fun _ _ _ _ => none) n0
def fX11_early (n0 : Nat) (x1 : Int32) (M : Mem) : Option (Int32 × Mem) :=
  (fX9_isCorner n0 (gR M 1) x1 M).bind fun z5 =>
  if z5.1 = 0 then
    some ((-1 : Int32), z5.2)
  else
    (fX11_foresee n0 26 x1 (60 : Int32) z5.2).bind fun z21 =>
    (fX10_goOutFrom n0 (gR z21.2 1) x1 z21.2).bind fun z34 =>
    fX11_early_39 n0 x1 z21.1 (1 : Int32) z34
theorem tfX11_early_73 (n0 : Nat) (hO : OKc p (rmL 7) s m args meth c LX D cy ad cX11_early RX11 4 7 (some .int)) (k39 : Int32 → Int32 → Int32 → Mem → Option (Int32 × Mem)) (hk39 : ∀ (x1 : Int32) (x2 : Int32) (x3 : Int32) (M : Mem), BL p l e (rmL 7) s m args below meth c LX D cy ad 4 (QI LX D cy ad) 39 [(0, .ref (ad 0)), (1, .int x1), (2, .int x2), (3, .int x3)] [] M (k39 x1 x2 x3 M)) (x1 : Int32) (x2 : Int32) (x3 : Int32) (M : Mem) : BL p l e (rmL 7) s m args below meth c LX D cy ad 4 (QI LX D cy ad) 73 [(0, .ref (ad 0)), (1, .int x1), (2, .int x2), (3, .int x3)] [] M (fX11_early_73 n0 k39 x1 x2 x3 M) := by
  unfold fX11_early_73
  refine b_iinc hO dX11_early_73 3 rfl ic_i_1 (by decide) (lv' := [(3, .int _), (0, .ref _), (1, .int _), (2, .int _)]) rfl ?_
  refine b_goto hO dX11_early_76 (tgt := 39) (by decide) ?_
  refine b_sub [1, 2, 3, 0] rfl ?_
  exact hk39 _ _ _ _
theorem tbX11_early_39 (n0 : Nat) (hO : OKc p (rmL 7) s m args meth c LX D cy ad cX11_early RX11 4 7 (some .int)) (k39 : Int32 → Int32 → Int32 → Mem → Option (Int32 × Mem)) (hk39 : ∀ (x1 : Int32) (x2 : Int32) (x3 : Int32) (M : Mem), BL p l e (rmL 7) s m args below meth c LX D cy ad 4 (QI LX D cy ad) 39 [(0, .ref (ad 0)), (1, .int x1), (2, .int x2), (3, .int x3)] [] M (k39 x1 x2 x3 M)) (x1 : Int32) (x2 : Int32) (x3 : Int32) (M : Mem) : BL p l e (rmL 7) s m args below meth c LX D cy ad 4 (QI LX D cy ad) 39 [(0, .ref (ad 0)), (1, .int x1), (2, .int x2), (3, .int x3)] [] M (bX11_early_39 n0 k39 x1 x2 x3 M) := by
  unfold bX11_early_39
  refine b_iload_n hO dX11_early_39 3 rfl rfl ?_
  refine b_iload_n hO dX11_early_40 2 rfl rfl ?_
  refine b_icmp_gt hO dX11_early_41 (tgt := 79) (by decide) ?_ ?_
  · refine b_iconst hO dX11_early_79 ic_i_m1 ?_
    exact b_iret hO dX11_early_80
  · refine b_aload_n hO dX11_early_44 0 rfl rfl ?_
    refine b_get hO flX11_61 kLX_0 (v := .ref (ad 18)) rfl dX11_early_45 ?_
    refine b_iload_n hO dX11_early_48 1 rfl rfl ?_
    refine b_iload_n hO dX11_early_49 3 rfl rfl ?_
    refine b_callVI hO mdX10_canBeAt mvX10_canBeAt w1080 (ci := 10) rfl rfl (by decide) kLX_18 (As := [.int _, .int _]) (st := []) (ctX10_canBeAt n0 hO.2.2.2.2.2.2.1 _ _ _) (Nat.le_of_ble_eq_true rfl) rfl rfl (Nat.le_of_ble_eq_true rfl) dX11_early_50 (fun z50 => ?_)
    refine b_if_eq hO dX11_early_53 (tgt := 73) (by decide) ?_ ?_
    · exact tfX11_early_73 n0 hO k39 hk39 _ _ _ _
    · refine b_aload_n hO dX11_early_56 0 rfl rfl ?_
      refine b_get hO flX11_72 kLX_0 (v := .ref (ad 26)) rfl dX11_early_57 ?_
      refine b_iload_n hO dX11_early_60 3 rfl rfl ?_
      refine b_iald hO kLX_26 (n := 61) rfl dX11_early_61 ?_
      refine b_aload_n hO dX11_early_62 0 rfl rfl ?_
      refine b_get hO flX11_72 kLX_0 (v := .ref (ad 26)) rfl dX11_early_63 ?_
      refine b_iconst hO dX11_early_66 ic_i_0 ?_
      refine b_iald hO kLX_26 (n := 61) rfl dX11_early_67 ?_
      refine b_icmp_ge hO dX11_early_68 (tgt := 73) (by decide) ?_ ?_
      · exact tfX11_early_73 n0 hO k39 hk39 _ _ _ _
      · refine b_iload_n hO dX11_early_71 3 rfl rfl ?_
        exact b_iret hO dX11_early_72
theorem lX11_early_39 (n0 : Nat) (hO : OKc p (rmL 7) s m args meth c LX D cy ad cX11_early RX11 4 7 (some .int)) : ∀ (w : Nat) (x1 : Int32) (x2 : Int32) (x3 : Int32) (M : Mem), BL p l e (rmL 7) s m args below meth c LX D cy ad 4 (QI LX D cy ad) 39 [(0, .ref (ad 0)), (1, .int x1), (2, .int x2), (3, .int x3)] [] M (loopN (bX11_early_39 n0) (fun _ _ _ _ => none) w x1 x2 x3 M) := by
  intro w
  induction w with
  | zero =>
    intros
    exact b_none
  | succ w ih =>
    intro x1 x2 x3 M
    exact tbX11_early_39 n0 hO _ ih x1 x2 x3 M
theorem tfX11_early_39 (n0 : Nat) (hO : OKc p (rmL 7) s m args meth c LX D cy ad cX11_early RX11 4 7 (some .int)) (x1 : Int32) (x2 : Int32) (x3 : Int32) (M : Mem) : BL p l e (rmL 7) s m args below meth c LX D cy ad 4 (QI LX D cy ad) 39 [(0, .ref (ad 0)), (1, .int x1), (2, .int x2), (3, .int x3)] [] M (fX11_early_39 n0 x1 x2 x3 M) := lX11_early_39 n0 hO n0 x1 x2 x3 M
theorem tfX11_early (n0 : Nat) (hO : OKc p (rmL 7) s m args meth c LX D cy ad cX11_early RX11 4 7 (some .int)) (x1 : Int32) (M : Mem) : BL p l e (rmL 7) s m args below meth c LX D cy ad 4 (QI LX D cy ad) 0 [(0, .ref (ad 0)), (1, .int x1)] [] M (fX11_early n0 x1 M) := by
  unfold fX11_early
  refine b_aload_n hO dX11_early_0 0 rfl rfl ?_
  refine b_getR hO flX11_19 kLX_0 (id := 1) rfl rfl (rk := 9) rfl (by decide) dX11_early_1 (fun hg1 => ?_)
  refine b_iload_n hO dX11_early_4 1 rfl rfl ?_
  refine b_callVI hO mdX9_isCorner mvX9_isCorner w928 (ci := 9) rfl rfl (by decide) hg1 (As := [.int _]) (st := []) (ctX9_isCorner n0 _ hg1 hO.2.2.2.2.2.2.1 _ _) (Nat.le_of_ble_eq_true rfl) rfl rfl (Nat.le_of_ble_eq_true rfl) dX11_early_5 (fun z5 => ?_)
  refine b_if_ne hO dX11_early_8 (tgt := 13) (by decide) ?_ ?_
  · refine b_aload_n hO dX11_early_13 0 rfl rfl ?_
    refine b_iload_n hO dX11_early_14 1 rfl rfl ?_
    refine b_aload_n hO dX11_early_15 0 rfl rfl ?_
    refine b_get hO flX11_72 kLX_0 (v := .ref (ad 26)) rfl dX11_early_16 ?_
    refine b_bipush hO dX11_early_19 ic_b_60 ?_
    refine b_callVI hO mdX11_foresee mvX11_foresee w966 (ci := 11) rfl rfl (by decide) kLX_0 (As := [.int _, .ref _, .int _]) (st := []) (ctX11_foresee n0 _ kLX_26 hO.2.2.2.2.2.2.1 _ _ _) (Nat.le_of_ble_eq_true rfl) rfl rfl (Nat.le_of_ble_eq_true rfl) dX11_early_21 (fun z21 => ?_)
    refine b_istore_n hO dX11_early_24 rfl (by decide) (lv' := [(2, .int _), (0, .ref _), (1, .int _)]) rfl ?_
    refine b_aload_n hO dX11_early_25 1 rfl rfl ?_
    refine b_get hO flX11_61 kLX_0 (v := .ref (ad 18)) rfl dX11_early_26 ?_
    refine b_aload_n hO dX11_early_29 1 rfl rfl ?_
    refine b_getR hO flX11_19 kLX_0 (id := 1) rfl rfl (rk := 9) rfl (by decide) dX11_early_30 (fun hg2 => ?_)
    refine b_iload_n hO dX11_early_33 2 rfl rfl ?_
    refine b_callVV hO mdX10_goOutFrom mvX10_goOutFrom w1073 (ci := 10) rfl rfl (by decide) kLX_18 (As := [.ref _, .int _]) (st := []) (ctX10_goOutFrom n0 _ hg2 hO.2.2.2.2.2.2.1 _ _) (Nat.le_of_ble_eq_true rfl) rfl rfl (Nat.le_of_ble_eq_true rfl) dX11_early_34 (fun z34 => ?_)
    refine b_iconst hO dX11_early_37 ic_i_1 ?_
    refine b_istore_n hO dX11_early_38 rfl (by decide) (lv' := [(3, .int _), (2, .int _), (0, .ref _), (1, .int _)]) rfl ?_
    refine b_sub [2, 3, 1, 0] rfl ?_
    exact tfX11_early_39 n0 hO _ _ _ _
  · refine b_iconst hO dX11_early_11 ic_i_m1 ?_
    exact b_iret hO dX11_early_12
theorem ctX11_early (n0 : Nat) (hI : Inj LX ad) (x1 : Int32) (M : Mem) : CT l LX D cy ad yX11_early cX11_early 4 (some .int) 7 (QI LX D cy ad) [.ref (ad 0), .int x1] M (fX11_early n0 x1 M) :=
  CT.mk LXok hI (by decide) (Nat.le_of_ble_eq_true rfl) (fun hO => tfX11_early n0 hO x1 M)
/-! X11_see -/
def fX11_see (n0 : Nat) (M : Mem) : Option (Int32 × Mem) :=
  (fX5_read n0 (gR M 1) M).bind fun z12 =>
  bnd (sI z12.2 641 (0 : Int32)) fun M21 =>
  if z12.1 = 0 then
    (fX11_refuse n0 (5 : Int32) M21).bind fun z40 =>
    some (z40.1, z40.2)
  else
    some ((gI M21 2688), M21)
theorem tfX11_see (n0 : Nat) (hO : OKc p (rmL 3) s m args meth c LX D cy ad cX11_see RX11 2 3 (some .int)) (M : Mem) : BL p l e (rmL 3) s m args below meth c LX D cy ad 2 (QI LX D cy ad) 0 [(0, .ref (ad 0))] [] M (fX11_see n0 M) := by
  unfold fX11_see
  refine b_aload_n hO dX11_see_0 0 rfl rfl ?_
  refine b_get hO flX11_68 kLX_0 (v := .ref (ad 21)) rfl dX11_see_1 ?_
  refine b_aload_n hO dX11_see_4 0 rfl rfl ?_
  refine b_get hO flX11_12 kLX_0 (v := .ref (ad 5)) rfl dX11_see_5 ?_
  refine b_aload_n hO dX11_see_8 0 rfl rfl ?_
  refine b_getR hO flX11_19 kLX_0 (id := 1) rfl rfl (rk := 9) rfl (by decide) dX11_see_9 (fun hg1 => ?_)
  refine b_callVI hO mdX5_read mvX5_read w1088 (ci := 5) rfl rfl (by decide) kLX_21 (As := [.ref _, .ref _]) (st := []) (ctX5_read n0 _ hg1 hO.2.2.2.2.2.2.1 _) (Nat.le_of_ble_eq_true rfl) rfl rfl (Nat.le_of_ble_eq_true rfl) dX11_see_12 (fun z12 => ?_)
  refine b_istore_n hO dX11_see_15 rfl (by decide) (lv' := [(1, .int _), (0, .ref _)]) rfl ?_
  refine b_aload_n hO dX11_see_16 1 rfl rfl ?_
  refine b_get hO flX11_12 kLX_0 (v := .ref (ad 5)) rfl dX11_see_17 ?_
  refine b_iconst hO dX11_see_20 ic_i_0 ?_
  refine b_putI hO flX11_116 kLX_5 rfl rfl rfl (id := 641) rfl dX11_see_21 ?_
  refine b_bnd (fun M21 => ?_)
  refine b_iload_n hO dX11_see_24 0 rfl rfl ?_
  refine b_if_eq hO dX11_see_25 (tgt := 38) (by decide) ?_ ?_
  · refine b_aload_n hO dX11_see_38 1 rfl rfl ?_
    refine b_iconst hO dX11_see_39 ic_i_5 ?_
    refine b_callVI hO mdX11_refuse mvX11_refuse w671 (ci := 11) rfl rfl (by decide) kLX_0 (As := [.int _]) (st := []) (ctX11_refuse n0 hO.2.2.2.2.2.2.1 _ _) (Nat.le_of_ble_eq_true rfl) rfl rfl (Nat.le_of_ble_eq_true rfl) dX11_see_40 (fun z40 => ?_)
    exact b_iret hO dX11_see_43
  · refine b_aload_n hO dX11_see_28 1 rfl rfl ?_
    refine b_get hO flX11_68 kLX_0 (v := .ref (ad 21)) rfl dX11_see_29 ?_
    refine b_get hO flX11_161 kLX_21 (v := .int (gI _ 2688)) rfl dX11_see_32 ?_
    refine b_goto hO dX11_see_35 (tgt := 43) (by decide) ?_
    exact b_iret hO dX11_see_43
theorem ctX11_see (n0 : Nat) (hI : Inj LX ad) (M : Mem) : CT l LX D cy ad yX11_see cX11_see 2 (some .int) 3 (QI LX D cy ad) [.ref (ad 0)] M (fX11_see n0 M) :=
  CT.mk LXok hI (by decide) (Nat.le_of_ble_eq_true rfl) (fun hO => tfX11_see n0 hO M)
/-! X11_findHeld -/
def fX11_findHeld_59 (n0 : Nat) (k2 : Int32 → Int32 → Mem → Option (Int32 × Mem)) (x1 : Int32) (x2 : Int32) (M : Mem) : Option (Int32 × Mem) :=
  k2 x1 (x2 + (1 : Int32)) M
def fX11_findHeld_153 (n0 : Nat) (k69 : Int32 → Int32 → Int32 → Mem → Option (Int32 × Mem)) (x1 : Int32) (x2 : Int32) (x3 : Int32) (M : Mem) : Option (Int32 × Mem) :=
  k69 x1 x2 (x3 + (1 : Int32)) M
def bX11_findHeld_69 (n0 : Nat) (k69 : Int32 → Int32 → Int32 → Mem → Option (Int32 × Mem)) (x1 : Int32) (x2 : Int32) (x3 : Int32) (M : Mem) : Option (Int32 × Mem) :=
  if (gI M (128 * (gR M 1) + 1)) ≤ x3 then
    some (x2, M)
  else
    (fX1_hold n0 x1 x3 (0 : Int32) (gI M 1281) M).bind fun z94 =>
    (fX1_foresee n0 26 (40 : Int32) z94).bind fun z107 =>
    (fX5_noteHours n0 26 (x3 + (1 : Int32)) z107.1 z107.2).bind fun z125 =>
    (fX5_isSo n0 26 x1 z107.1 z125).bind fun z139 =>
    if z139.1 = 0 then
      fX11_findHeld_153 n0 k69 x1 x2 x3 z139.2
    else
      bnd (x2 ||| ((1 : Int32) <<< ((x3 + (1 : Int32)) &&& 31))) fun x2_152 =>
      fX11_findHeld_153 n0 k69 x1 x2_152 x3 z139.2
def fX11_findHeld_69 (n0 : Nat) : Int32 → Int32 → Int32 → Mem → Option (Int32 × Mem) := loopN (bX11_findHeld_69 n0) (fun _ _ _ _ => none) n0
def bX11_findHeld_2 (n0 : Nat) (k2 : Int32 → Int32 → Mem → Option (Int32 × Mem)) (x1 : Int32) (x2 : Int32) (M : Mem) : Option (Int32 × Mem) :=
  if (gI M (128 * (gR M 1) + 5)) ≤ x2 then
    fX11_findHeld_69 n0 x1 (0 : Int32) (-1 : Int32) M
  else
    if x2 = x1 then
      fX11_findHeld_59 n0 k2 x1 x2 M
    else
      (fX5_isAbout n0 x2 M).bind fun z23 =>
      if z23.1 = 0 then
        fX11_findHeld_59 n0 k2 x1 x2 z23.2
      else
        (fX11_foresee n0 26 x2 (40 : Int32) z23.2).bind fun z37 =>
        (fX5_isSo n0 26 x2 z37.1 z37.2).bind fun z51 =>
        if z51.1 = 0 then
          some ((0 : Int32), z51.2)
        else
          fX11_findHeld_59 n0 k2 x1 x2 z51.2
def fX11_findHeld_2 (n0 : Nat) : Int32 → Int32 → Mem → Option (Int32 × Mem) := loopN (bX11_findHeld_2 n0) (fun _ _ _ => none) n0
def fX11_findHeld (n0 : Nat) (x1 : Int32) (M : Mem) : Option (Int32 × Mem) :=
  fX11_findHeld_2 n0 x1 (0 : Int32) M
theorem tfX11_findHeld_59 (n0 : Nat) (hO : OKc p (rmL 7) s m args meth c LX D cy ad cX11_findHeld RX11 5 7 (some .int)) (k2 : Int32 → Int32 → Mem → Option (Int32 × Mem)) (hk2 : ∀ (x1 : Int32) (x2 : Int32) (M : Mem), BL p l e (rmL 7) s m args below meth c LX D cy ad 5 (QI LX D cy ad) 2 [(0, .ref (ad 0)), (1, .int x1), (2, .int x2)] [] M (k2 x1 x2 M)) (x1 : Int32) (x2 : Int32) (M : Mem) : BL p l e (rmL 7) s m args below meth c LX D cy ad 5 (QI LX D cy ad) 59 [(0, .ref (ad 0)), (1, .int x1), (2, .int x2)] [] M (fX11_findHeld_59 n0 k2 x1 x2 M) := by
  unfold fX11_findHeld_59
  refine b_iinc hO dX11_findHeld_59 2 rfl ic_i_1 (by decide) (lv' := [(2, .int _), (0, .ref _), (1, .int _)]) rfl ?_
  refine b_goto hO dX11_findHeld_62 (tgt := 2) (by decide) ?_
  refine b_sub [1, 2, 0] rfl ?_
  exact hk2 _ _ _
theorem tfX11_findHeld_153 (n0 : Nat) (hO : OKc p (rmL 7) s m args meth c LX D cy ad cX11_findHeld RX11 5 7 (some .int)) (k69 : Int32 → Int32 → Int32 → Mem → Option (Int32 × Mem)) (hk69 : ∀ (x1 : Int32) (x2 : Int32) (x3 : Int32) (M : Mem), BL p l e (rmL 7) s m args below meth c LX D cy ad 5 (QI LX D cy ad) 69 [(0, .ref (ad 0)), (1, .int x1), (2, .int x2), (3, .int x3)] [] M (k69 x1 x2 x3 M)) (x1 : Int32) (x2 : Int32) (x3 : Int32) (M : Mem) : BL p l e (rmL 7) s m args below meth c LX D cy ad 5 (QI LX D cy ad) 153 [(0, .ref (ad 0)), (1, .int x1), (2, .int x2), (3, .int x3)] [] M (fX11_findHeld_153 n0 k69 x1 x2 x3 M) := by
  unfold fX11_findHeld_153
  refine b_iinc hO dX11_findHeld_153 3 rfl ic_i_1 (by decide) (lv' := [(3, .int _), (0, .ref _), (1, .int _), (2, .int _)]) rfl ?_
  refine b_goto hO dX11_findHeld_156 (tgt := 69) (by decide) ?_
  refine b_sub [1, 2, 3, 0] rfl ?_
  exact hk69 _ _ _ _
theorem tbX11_findHeld_69 (n0 : Nat) (hO : OKc p (rmL 7) s m args meth c LX D cy ad cX11_findHeld RX11 5 7 (some .int)) (k69 : Int32 → Int32 → Int32 → Mem → Option (Int32 × Mem)) (hk69 : ∀ (x1 : Int32) (x2 : Int32) (x3 : Int32) (M : Mem), BL p l e (rmL 7) s m args below meth c LX D cy ad 5 (QI LX D cy ad) 69 [(0, .ref (ad 0)), (1, .int x1), (2, .int x2), (3, .int x3)] [] M (k69 x1 x2 x3 M)) (x1 : Int32) (x2 : Int32) (x3 : Int32) (M : Mem) : BL p l e (rmL 7) s m args below meth c LX D cy ad 5 (QI LX D cy ad) 69 [(0, .ref (ad 0)), (1, .int x1), (2, .int x2), (3, .int x3)] [] M (bX11_findHeld_69 n0 k69 x1 x2 x3 M) := by
  unfold bX11_findHeld_69
  refine b_iload_n hO dX11_findHeld_69 3 rfl rfl ?_
  refine b_aload_n hO dX11_findHeld_70 0 rfl rfl ?_
  refine b_getR hO flX11_19 kLX_0 (id := 1) rfl rfl (rk := 9) rfl (by decide) dX11_findHeld_71 (fun hg1 => ?_)
  refine b_get hO flX11_136 hg1 (v := .int (gI _ (128 * (gR M 1) + 1))) rfl dX11_findHeld_74 ?_
  refine b_icmp_ge hO dX11_findHeld_77 (tgt := 159) (by decide) ?_ ?_
  · refine b_iload_n hO dX11_findHeld_159 2 rfl rfl ?_
    exact b_iret hO dX11_findHeld_160
  · refine b_aload_n hO dX11_findHeld_80 0 rfl rfl ?_
    refine b_get hO flX11_40 kLX_0 (v := .ref (ad 7)) rfl dX11_findHeld_81 ?_
    refine b_iload_n hO dX11_findHeld_84 1 rfl rfl ?_
    refine b_iload_n hO dX11_findHeld_85 3 rfl rfl ?_
    refine b_iconst hO dX11_findHeld_86 ic_i_0 ?_
    refine b_aload_n hO dX11_findHeld_87 0 rfl rfl ?_
    refine b_get hO flX11_47 kLX_0 (v := .ref (ad 10)) rfl dX11_findHeld_88 ?_
    refine b_get hO flX11_148 kLX_10 (v := .int (gI _ 1281)) rfl dX11_findHeld_91 ?_
    refine b_callVV hO mdX1_hold mvX1_hold w952 (ci := 1) rfl rfl (by decide) kLX_7 (As := [.int _, .int _, .int _, .int _]) (st := []) (ctX1_hold n0 hO.2.2.2.2.2.2.1 _ _ _ _ _) (Nat.le_of_ble_eq_true rfl) rfl rfl (Nat.le_of_ble_eq_true rfl) dX11_findHeld_94 (fun z94 => ?_)
    refine b_aload_n hO dX11_findHeld_97 0 rfl rfl ?_
    refine b_get hO flX11_40 kLX_0 (v := .ref (ad 7)) rfl dX11_findHeld_98 ?_
    refine b_aload_n hO dX11_findHeld_101 0 rfl rfl ?_
    refine b_get hO flX11_72 kLX_0 (v := .ref (ad 26)) rfl dX11_findHeld_102 ?_
    refine b_bipush hO dX11_findHeld_105 ic_b_40 ?_
    refine b_callVI hO mdX1_foresee mvX1_foresee w970 (ci := 1) rfl rfl (by decide) kLX_7 (As := [.ref _, .int _]) (st := []) (ctX1_foresee n0 _ kLX_26 hO.2.2.2.2.2.2.1 _ _) (Nat.le_of_ble_eq_true rfl) rfl rfl (Nat.le_of_ble_eq_true rfl) dX11_findHeld_107 (fun z107 => ?_)
    refine b_istore hO dX11_findHeld_110 (by decide) (lv' := [(4, .int _), (0, .ref _), (1, .int _), (2, .int _), (3, .int _)]) rfl ?_
    refine b_aload_n hO dX11_findHeld_112 1 rfl rfl ?_
    refine b_get hO flX11_68 kLX_0 (v := .ref (ad 21)) rfl dX11_findHeld_113 ?_
    refine b_iload_n hO dX11_findHeld_116 4 rfl rfl ?_
    refine b_iconst hO dX11_findHeld_117 ic_i_1 ?_
    refine b_iadd hO dX11_findHeld_118 ?_
    refine b_aload_n hO dX11_findHeld_119 1 rfl rfl ?_
    refine b_get hO flX11_72 kLX_0 (v := .ref (ad 26)) rfl dX11_findHeld_120 ?_
    refine b_iload hO dX11_findHeld_123 0 rfl ?_
    refine b_callVV hO mdX5_noteHours mvX5_noteHours w1110 (ci := 5) rfl rfl (by decide) kLX_21 (As := [.int _, .ref _, .int _]) (st := []) (ctX5_noteHours n0 _ kLX_26 hO.2.2.2.2.2.2.1 _ _ _) (Nat.le_of_ble_eq_true rfl) rfl rfl (Nat.le_of_ble_eq_true rfl) dX11_findHeld_125 (fun z125 => ?_)
    refine b_aload_n hO dX11_findHeld_128 1 rfl rfl ?_
    refine b_get hO flX11_68 kLX_0 (v := .ref (ad 21)) rfl dX11_findHeld_129 ?_
    refine b_iload_n hO dX11_findHeld_132 2 rfl rfl ?_
    refine b_aload_n hO dX11_findHeld_133 1 rfl rfl ?_
    refine b_get hO flX11_72 kLX_0 (v := .ref (ad 26)) rfl dX11_findHeld_134 ?_
    refine b_iload hO dX11_findHeld_137 0 rfl ?_
    refine b_callVI hO mdX5_isSo mvX5_isSo w1106 (ci := 5) rfl rfl (by decide) kLX_21 (As := [.int _, .ref _, .int _]) (st := []) (ctX5_isSo n0 _ kLX_26 hO.2.2.2.2.2.2.1 _ _ _) (Nat.le_of_ble_eq_true rfl) rfl rfl (Nat.le_of_ble_eq_true rfl) dX11_findHeld_139 (fun z139 => ?_)
    refine b_if_eq hO dX11_findHeld_142 (tgt := 153) (by decide) ?_ ?_
    · refine b_sub [1, 2, 3, 4] rfl ?_
      exact tfX11_findHeld_153 n0 hO k69 hk69 _ _ _ _
    · refine b_iload_n hO dX11_findHeld_145 3 rfl rfl ?_
      refine b_iconst hO dX11_findHeld_146 ic_i_1 ?_
      refine b_iload_n hO dX11_findHeld_147 4 rfl rfl ?_
      refine b_iconst hO dX11_findHeld_148 ic_i_1 ?_
      refine b_iadd hO dX11_findHeld_149 ?_
      refine b_ishl hO dX11_findHeld_150 ?_
      refine b_ior hO dX11_findHeld_151 ?_
      refine b_topI (fun x2_152 => ?_)
      refine b_istore_n hO dX11_findHeld_152 rfl (by decide) (lv' := [(2, .int _), (4, .int _), (0, .ref _), (1, .int _), (3, .int _)]) rfl ?_
      refine b_sub [2, 3, 0, 4] rfl ?_
      exact tfX11_findHeld_153 n0 hO k69 hk69 _ _ _ _
theorem lX11_findHeld_69 (n0 : Nat) (hO : OKc p (rmL 7) s m args meth c LX D cy ad cX11_findHeld RX11 5 7 (some .int)) : ∀ (w : Nat) (x1 : Int32) (x2 : Int32) (x3 : Int32) (M : Mem), BL p l e (rmL 7) s m args below meth c LX D cy ad 5 (QI LX D cy ad) 69 [(0, .ref (ad 0)), (1, .int x1), (2, .int x2), (3, .int x3)] [] M (loopN (bX11_findHeld_69 n0) (fun _ _ _ _ => none) w x1 x2 x3 M) := by
  intro w
  induction w with
  | zero =>
    intros
    exact b_none
  | succ w ih =>
    intro x1 x2 x3 M
    exact tbX11_findHeld_69 n0 hO _ ih x1 x2 x3 M
theorem tfX11_findHeld_69 (n0 : Nat) (hO : OKc p (rmL 7) s m args meth c LX D cy ad cX11_findHeld RX11 5 7 (some .int)) (x1 : Int32) (x2 : Int32) (x3 : Int32) (M : Mem) : BL p l e (rmL 7) s m args below meth c LX D cy ad 5 (QI LX D cy ad) 69 [(0, .ref (ad 0)), (1, .int x1), (2, .int x2), (3, .int x3)] [] M (fX11_findHeld_69 n0 x1 x2 x3 M) := lX11_findHeld_69 n0 hO n0 x1 x2 x3 M
theorem tbX11_findHeld_2 (n0 : Nat) (hO : OKc p (rmL 7) s m args meth c LX D cy ad cX11_findHeld RX11 5 7 (some .int)) (k2 : Int32 → Int32 → Mem → Option (Int32 × Mem)) (hk2 : ∀ (x1 : Int32) (x2 : Int32) (M : Mem), BL p l e (rmL 7) s m args below meth c LX D cy ad 5 (QI LX D cy ad) 2 [(0, .ref (ad 0)), (1, .int x1), (2, .int x2)] [] M (k2 x1 x2 M)) (x1 : Int32) (x2 : Int32) (M : Mem) : BL p l e (rmL 7) s m args below meth c LX D cy ad 5 (QI LX D cy ad) 2 [(0, .ref (ad 0)), (1, .int x1), (2, .int x2)] [] M (bX11_findHeld_2 n0 k2 x1 x2 M) := by
  unfold bX11_findHeld_2
  refine b_iload_n hO dX11_findHeld_2 2 rfl rfl ?_
  refine b_aload_n hO dX11_findHeld_3 0 rfl rfl ?_
  refine b_getR hO flX11_19 kLX_0 (id := 1) rfl rfl (rk := 9) rfl (by decide) dX11_findHeld_4 (fun hg1 => ?_)
  refine b_get hO flX11_139 hg1 (v := .int (gI _ (128 * (gR M 1) + 5))) rfl dX11_findHeld_7 ?_
  refine b_icmp_ge hO dX11_findHeld_10 (tgt := 65) (by decide) ?_ ?_
  · refine b_iconst hO dX11_findHeld_65 ic_i_0 ?_
    refine b_istore_n hO dX11_findHeld_66 rfl (by decide) (lv' := [(2, .int _), (0, .ref _), (1, .int _)]) rfl ?_
    refine b_iconst hO dX11_findHeld_67 ic_i_m1 ?_
    refine b_istore_n hO dX11_findHeld_68 rfl (by decide) (lv' := [(3, .int _), (2, .int _), (0, .ref _), (1, .int _)]) rfl ?_
    refine b_sub [2, 3, 1, 0] rfl ?_
    exact tfX11_findHeld_69 n0 hO _ _ _ _
  · refine b_iload_n hO dX11_findHeld_13 2 rfl rfl ?_
    refine b_iload_n hO dX11_findHeld_14 1 rfl rfl ?_
    refine b_icmp_eq hO dX11_findHeld_15 (tgt := 59) (by decide) ?_ ?_
    · exact tfX11_findHeld_59 n0 hO k2 hk2 _ _ _
    · refine b_aload_n hO dX11_findHeld_18 0 rfl rfl ?_
      refine b_get hO flX11_68 kLX_0 (v := .ref (ad 21)) rfl dX11_findHeld_19 ?_
      refine b_iload_n hO dX11_findHeld_22 2 rfl rfl ?_
      refine b_callVI hO mdX5_isAbout mvX5_isAbout w1102 (ci := 5) rfl rfl (by decide) kLX_21 (As := [.int _]) (st := []) (ctX5_isAbout n0 hO.2.2.2.2.2.2.1 _ _) (Nat.le_of_ble_eq_true rfl) rfl rfl (Nat.le_of_ble_eq_true rfl) dX11_findHeld_23 (fun z23 => ?_)
      refine b_if_eq hO dX11_findHeld_26 (tgt := 59) (by decide) ?_ ?_
      · exact tfX11_findHeld_59 n0 hO k2 hk2 _ _ _
      · refine b_aload_n hO dX11_findHeld_29 0 rfl rfl ?_
        refine b_iload_n hO dX11_findHeld_30 2 rfl rfl ?_
        refine b_aload_n hO dX11_findHeld_31 0 rfl rfl ?_
        refine b_get hO flX11_72 kLX_0 (v := .ref (ad 26)) rfl dX11_findHeld_32 ?_
        refine b_bipush hO dX11_findHeld_35 ic_b_40 ?_
        refine b_callVI hO mdX11_foresee mvX11_foresee w966 (ci := 11) rfl rfl (by decide) kLX_0 (As := [.int _, .ref _, .int _]) (st := []) (ctX11_foresee n0 _ kLX_26 hO.2.2.2.2.2.2.1 _ _ _) (Nat.le_of_ble_eq_true rfl) rfl rfl (Nat.le_of_ble_eq_true rfl) dX11_findHeld_37 (fun z37 => ?_)
        refine b_istore_n hO dX11_findHeld_40 rfl (by decide) (lv' := [(3, .int _), (0, .ref _), (1, .int _), (2, .int _)]) rfl ?_
        refine b_aload_n hO dX11_findHeld_41 1 rfl rfl ?_
        refine b_get hO flX11_68 kLX_0 (v := .ref (ad 21)) rfl dX11_findHeld_42 ?_
        refine b_iload_n hO dX11_findHeld_45 3 rfl rfl ?_
        refine b_aload_n hO dX11_findHeld_46 1 rfl rfl ?_
        refine b_get hO flX11_72 kLX_0 (v := .ref (ad 26)) rfl dX11_findHeld_47 ?_
        refine b_iload_n hO dX11_findHeld_50 0 rfl rfl ?_
        refine b_callVI hO mdX5_isSo mvX5_isSo w1106 (ci := 5) rfl rfl (by decide) kLX_21 (As := [.int _, .ref _, .int _]) (st := []) (ctX5_isSo n0 _ kLX_26 hO.2.2.2.2.2.2.1 _ _ _) (Nat.le_of_ble_eq_true rfl) rfl rfl (Nat.le_of_ble_eq_true rfl) dX11_findHeld_51 (fun z51 => ?_)
        refine b_if_ne hO dX11_findHeld_54 (tgt := 59) (by decide) ?_ ?_
        · refine b_sub [1, 2, 3] rfl ?_
          exact tfX11_findHeld_59 n0 hO k2 hk2 _ _ _
        · refine b_iconst hO dX11_findHeld_57 ic_i_0 ?_
          exact b_iret hO dX11_findHeld_58
theorem lX11_findHeld_2 (n0 : Nat) (hO : OKc p (rmL 7) s m args meth c LX D cy ad cX11_findHeld RX11 5 7 (some .int)) : ∀ (w : Nat) (x1 : Int32) (x2 : Int32) (M : Mem), BL p l e (rmL 7) s m args below meth c LX D cy ad 5 (QI LX D cy ad) 2 [(0, .ref (ad 0)), (1, .int x1), (2, .int x2)] [] M (loopN (bX11_findHeld_2 n0) (fun _ _ _ => none) w x1 x2 M) := by
  intro w
  induction w with
  | zero =>
    intros
    exact b_none
  | succ w ih =>
    intro x1 x2 M
    exact tbX11_findHeld_2 n0 hO _ ih x1 x2 M
theorem tfX11_findHeld_2 (n0 : Nat) (hO : OKc p (rmL 7) s m args meth c LX D cy ad cX11_findHeld RX11 5 7 (some .int)) (x1 : Int32) (x2 : Int32) (M : Mem) : BL p l e (rmL 7) s m args below meth c LX D cy ad 5 (QI LX D cy ad) 2 [(0, .ref (ad 0)), (1, .int x1), (2, .int x2)] [] M (fX11_findHeld_2 n0 x1 x2 M) := lX11_findHeld_2 n0 hO n0 x1 x2 M
theorem tfX11_findHeld (n0 : Nat) (hO : OKc p (rmL 7) s m args meth c LX D cy ad cX11_findHeld RX11 5 7 (some .int)) (x1 : Int32) (M : Mem) : BL p l e (rmL 7) s m args below meth c LX D cy ad 5 (QI LX D cy ad) 0 [(0, .ref (ad 0)), (1, .int x1)] [] M (fX11_findHeld n0 x1 M) := by
  unfold fX11_findHeld
  refine b_iconst hO dX11_findHeld_0 ic_i_0 ?_
  refine b_istore_n hO dX11_findHeld_1 rfl (by decide) (lv' := [(2, .int _), (0, .ref _), (1, .int _)]) rfl ?_
  refine b_sub [1, 2, 0] rfl ?_
  exact tfX11_findHeld_2 n0 hO _ _ _
theorem ctX11_findHeld (n0 : Nat) (hI : Inj LX ad) (x1 : Int32) (M : Mem) : CT l LX D cy ad yX11_findHeld cX11_findHeld 5 (some .int) 7 (QI LX D cy ad) [.ref (ad 0), .int x1] M (fX11_findHeld n0 x1 M) :=
  CT.mk LXok hI (by decide) (Nat.le_of_ble_eq_true rfl) (fun hO => tfX11_findHeld n0 hO x1 M)
/-! X11_held -/
def fX11_held (n0 : Nat) (x1 : Int32) (M : Mem) : Option (Int32 × Mem) :=
  (fX9_isCorner n0 (gR M 1) x1 M).bind fun z5 =>
  if z5.1 = 0 then
    some ((-1 : Int32), z5.2)
  else
    (fX11_findHeld n0 x1 z5.2).bind fun z15 =>
    some (z15.1, z15.2)
theorem tfX11_held (n0 : Nat) (hO : OKc p (rmL 8) s m args meth c LX D cy ad cX11_held RX11 2 8 (some .int)) (x1 : Int32) (M : Mem) : BL p l e (rmL 8) s m args below meth c LX D cy ad 2 (QI LX D cy ad) 0 [(0, .ref (ad 0)), (1, .int x1)] [] M (fX11_held n0 x1 M) := by
  unfold fX11_held
  refine b_aload_n hO dX11_held_0 0 rfl rfl ?_
  refine b_getR hO flX11_19 kLX_0 (id := 1) rfl rfl (rk := 9) rfl (by decide) dX11_held_1 (fun hg1 => ?_)
  refine b_iload_n hO dX11_held_4 1 rfl rfl ?_
  refine b_callVI hO mdX9_isCorner mvX9_isCorner w928 (ci := 9) rfl rfl (by decide) hg1 (As := [.int _]) (st := []) (ctX9_isCorner n0 _ hg1 hO.2.2.2.2.2.2.1 _ _) (Nat.le_of_ble_eq_true rfl) rfl rfl (Nat.le_of_ble_eq_true rfl) dX11_held_5 (fun z5 => ?_)
  refine b_if_ne hO dX11_held_8 (tgt := 13) (by decide) ?_ ?_
  · refine b_aload_n hO dX11_held_13 0 rfl rfl ?_
    refine b_iload_n hO dX11_held_14 1 rfl rfl ?_
    refine b_callVI hO mdX11_findHeld mvX11_findHeld w1098 (ci := 11) rfl rfl (by decide) kLX_0 (As := [.int _]) (st := []) (ctX11_findHeld n0 hO.2.2.2.2.2.2.1 _ _) (Nat.le_of_ble_eq_true rfl) rfl rfl (Nat.le_of_ble_eq_true rfl) dX11_held_15 (fun z15 => ?_)
    exact b_iret hO dX11_held_18
  · refine b_iconst hO dX11_held_11 ic_i_m1 ?_
    exact b_iret hO dX11_held_12
theorem ctX11_held (n0 : Nat) (hI : Inj LX ad) (x1 : Int32) (M : Mem) : CT l LX D cy ad yX11_held cX11_held 2 (some .int) 8 (QI LX D cy ad) [.ref (ad 0), .int x1] M (fX11_held n0 x1 M) :=
  CT.mk LXok hI (by decide) (Nat.le_of_ble_eq_true rfl) (fun hO => tfX11_held n0 hO x1 M)
/-! X11_tells -/
def fX11_tells_103 (n0 : Nat) (k69 : Int32 → Int32 → Int32 → Int32 → Int32 → Int32 → Mem → Option (Int32 × Mem)) (x2 : Int32) (x3 : Int32) (x4 : Int32) (x5 : Int32) (x6 : Int32) (x7 : Int32) (M : Mem) : Option (Int32 × Mem) :=
  k69 x2 x3 x4 x5 x6 (x7 + (1 : Int32)) M
def bX11_tells_69 (n0 : Nat) (k69 : Int32 → Int32 → Int32 → Int32 → Int32 → Int32 → Mem → Option (Int32 × Mem)) (x2 : Int32) (x3 : Int32) (x4 : Int32) (x5 : Int32) (x6 : Int32) (x7 : Int32) (M : Mem) : Option (Int32 × Mem) :=
  if x4 < x7 then
    if x2 = 0 then
      some (x5, M)
    else
      some (x6, M)
  else
    (fX5_mostLeft n0 x3 x7 M).bind fun z83 =>
    if x6 ≤ z83.1 then
      fX11_tells_103 n0 k69 x2 x3 x4 x5 x6 x7 z83.2
    else
      fX11_tells_103 n0 k69 x2 x3 x4 x7 z83.1 x7 z83.2
def fX11_tells_69 (n0 : Nat) : Int32 → Int32 → Int32 → Int32 → Int32 → Int32 → Mem → Option (Int32 × Mem) := loopN (bX11_tells_69 n0) (fun _ _ _ _ _ _ _ => none) n0
def fX11_tells (n0 : Nat) (x1 : Int32) (x2 : Int32) (M : Mem) : Option (Int32 × Mem) :=
  (fX9_isCorner n0 (gR M 1) x1 M).bind fun z5 =>
  if z5.1 = 0 then
    some ((-1 : Int32), z5.2)
  else
    if x2 < 0 then
      some ((-1 : Int32), z5.2)
    else
      if x2 ≤ (1 : Int32) then
        (fX11_findHeld n0 x1 z5.2).bind fun z24 =>
        if z24.1 = 0 then
          some ((-1 : Int32), z24.2)
        else
          bnd (imin (40 : Int32) ((9999 : Int32) - (gI z24.2 1281))) fun x4_50 =>
          (fX5_mostLeft n0 z24.1 (0 : Int32) z24.2).bind fun z61 =>
          fX11_tells_69 n0 x2 z24.1 x4_50 (0 : Int32) z61.1 (1 : Int32) z61.2
      else
        some ((-1 : Int32), z5.2)
theorem tfX11_tells_103 (n0 : Nat) (hO : OKc p (rmL 8) s m args meth c LX D cy ad cX11_tells RX11 9 8 (some .int)) (k69 : Int32 → Int32 → Int32 → Int32 → Int32 → Int32 → Mem → Option (Int32 × Mem)) (hk69 : ∀ (x2 : Int32) (x3 : Int32) (x4 : Int32) (x5 : Int32) (x6 : Int32) (x7 : Int32) (M : Mem), BL p l e (rmL 8) s m args below meth c LX D cy ad 9 (QI LX D cy ad) 69 [(0, .ref (ad 0)), (2, .int x2), (3, .int x3), (4, .int x4), (5, .int x5), (6, .int x6), (7, .int x7)] [] M (k69 x2 x3 x4 x5 x6 x7 M)) (x2 : Int32) (x3 : Int32) (x4 : Int32) (x5 : Int32) (x6 : Int32) (x7 : Int32) (M : Mem) : BL p l e (rmL 8) s m args below meth c LX D cy ad 9 (QI LX D cy ad) 103 [(0, .ref (ad 0)), (2, .int x2), (3, .int x3), (4, .int x4), (5, .int x5), (6, .int x6), (7, .int x7)] [] M (fX11_tells_103 n0 k69 x2 x3 x4 x5 x6 x7 M) := by
  unfold fX11_tells_103
  refine b_iinc hO dX11_tells_103 6 rfl ic_i_1 (by decide) (lv' := [(7, .int _), (0, .ref _), (2, .int _), (3, .int _), (4, .int _), (5, .int _), (6, .int _)]) rfl ?_
  refine b_goto hO dX11_tells_106 (tgt := 69) (by decide) ?_
  refine b_sub [1, 2, 3, 4, 5, 6, 0] rfl ?_
  exact hk69 _ _ _ _ _ _ _
theorem tbX11_tells_69 (n0 : Nat) (hO : OKc p (rmL 8) s m args meth c LX D cy ad cX11_tells RX11 9 8 (some .int)) (k69 : Int32 → Int32 → Int32 → Int32 → Int32 → Int32 → Mem → Option (Int32 × Mem)) (hk69 : ∀ (x2 : Int32) (x3 : Int32) (x4 : Int32) (x5 : Int32) (x6 : Int32) (x7 : Int32) (M : Mem), BL p l e (rmL 8) s m args below meth c LX D cy ad 9 (QI LX D cy ad) 69 [(0, .ref (ad 0)), (2, .int x2), (3, .int x3), (4, .int x4), (5, .int x5), (6, .int x6), (7, .int x7)] [] M (k69 x2 x3 x4 x5 x6 x7 M)) (x2 : Int32) (x3 : Int32) (x4 : Int32) (x5 : Int32) (x6 : Int32) (x7 : Int32) (M : Mem) : BL p l e (rmL 8) s m args below meth c LX D cy ad 9 (QI LX D cy ad) 69 [(0, .ref (ad 0)), (2, .int x2), (3, .int x3), (4, .int x4), (5, .int x5), (6, .int x6), (7, .int x7)] [] M (bX11_tells_69 n0 k69 x2 x3 x4 x5 x6 x7 M) := by
  unfold bX11_tells_69
  refine b_iload hO dX11_tells_69 6 rfl ?_
  refine b_iload hO dX11_tells_71 3 rfl ?_
  refine b_icmp_gt hO dX11_tells_73 (tgt := 109) (by decide) ?_ ?_
  · refine b_iload_n hO dX11_tells_109 1 rfl rfl ?_
    refine b_if_ne hO dX11_tells_110 (tgt := 118) (by decide) ?_ ?_
    · refine b_iload hO dX11_tells_118 5 rfl ?_
      exact b_iret hO dX11_tells_120
    · refine b_iload hO dX11_tells_113 4 rfl ?_
      refine b_goto hO dX11_tells_115 (tgt := 120) (by decide) ?_
      exact b_iret hO dX11_tells_120
  · refine b_aload_n hO dX11_tells_76 0 rfl rfl ?_
    refine b_get hO flX11_68 kLX_0 (v := .ref (ad 21)) rfl dX11_tells_77 ?_
    refine b_iload_n hO dX11_tells_80 2 rfl rfl ?_
    refine b_iload hO dX11_tells_81 6 rfl ?_
    refine b_callVI hO mdX5_mostLeft mvX5_mostLeft w1119 (ci := 5) rfl rfl (by decide) kLX_21 (As := [.int _, .int _]) (st := []) (ctX5_mostLeft n0 hO.2.2.2.2.2.2.1 _ _ _) (Nat.le_of_ble_eq_true rfl) rfl rfl (Nat.le_of_ble_eq_true rfl) dX11_tells_83 (fun z83 => ?_)
    refine b_istore hO dX11_tells_86 (by decide) (lv' := [(8, .int _), (0, .ref _), (2, .int _), (3, .int _), (4, .int _), (5, .int _), (6, .int _), (7, .int _)]) rfl ?_
    refine b_iload hO dX11_tells_88 0 rfl ?_
    refine b_iload hO dX11_tells_90 6 rfl ?_
    refine b_icmp_ge hO dX11_tells_92 (tgt := 103) (by decide) ?_ ?_
    · refine b_sub [1, 2, 3, 4, 5, 6, 7] rfl ?_
      exact tfX11_tells_103 n0 hO k69 hk69 _ _ _ _ _ _ _
    · refine b_iload hO dX11_tells_95 7 rfl ?_
      refine b_istore hO dX11_tells_97 (by decide) (lv' := [(5, .int _), (8, .int _), (0, .ref _), (2, .int _), (3, .int _), (4, .int _), (6, .int _), (7, .int _)]) rfl ?_
      refine b_iload hO dX11_tells_99 1 rfl ?_
      refine b_istore hO dX11_tells_101 (by decide) (lv' := [(6, .int _), (5, .int _), (8, .int _), (0, .ref _), (2, .int _), (3, .int _), (4, .int _), (7, .int _)]) rfl ?_
      refine b_sub [3, 4, 5, 6, 1, 0, 7] rfl ?_
      exact tfX11_tells_103 n0 hO k69 hk69 _ _ _ _ _ _ _
theorem lX11_tells_69 (n0 : Nat) (hO : OKc p (rmL 8) s m args meth c LX D cy ad cX11_tells RX11 9 8 (some .int)) : ∀ (w : Nat) (x2 : Int32) (x3 : Int32) (x4 : Int32) (x5 : Int32) (x6 : Int32) (x7 : Int32) (M : Mem), BL p l e (rmL 8) s m args below meth c LX D cy ad 9 (QI LX D cy ad) 69 [(0, .ref (ad 0)), (2, .int x2), (3, .int x3), (4, .int x4), (5, .int x5), (6, .int x6), (7, .int x7)] [] M (loopN (bX11_tells_69 n0) (fun _ _ _ _ _ _ _ => none) w x2 x3 x4 x5 x6 x7 M) := by
  intro w
  induction w with
  | zero =>
    intros
    exact b_none
  | succ w ih =>
    intro x2 x3 x4 x5 x6 x7 M
    exact tbX11_tells_69 n0 hO _ ih x2 x3 x4 x5 x6 x7 M
theorem tfX11_tells_69 (n0 : Nat) (hO : OKc p (rmL 8) s m args meth c LX D cy ad cX11_tells RX11 9 8 (some .int)) (x2 : Int32) (x3 : Int32) (x4 : Int32) (x5 : Int32) (x6 : Int32) (x7 : Int32) (M : Mem) : BL p l e (rmL 8) s m args below meth c LX D cy ad 9 (QI LX D cy ad) 69 [(0, .ref (ad 0)), (2, .int x2), (3, .int x3), (4, .int x4), (5, .int x5), (6, .int x6), (7, .int x7)] [] M (fX11_tells_69 n0 x2 x3 x4 x5 x6 x7 M) := lX11_tells_69 n0 hO n0 x2 x3 x4 x5 x6 x7 M
theorem tfX11_tells (n0 : Nat) (hO : OKc p (rmL 8) s m args meth c LX D cy ad cX11_tells RX11 9 8 (some .int)) (x1 : Int32) (x2 : Int32) (M : Mem) : BL p l e (rmL 8) s m args below meth c LX D cy ad 9 (QI LX D cy ad) 0 [(0, .ref (ad 0)), (1, .int x1), (2, .int x2)] [] M (fX11_tells n0 x1 x2 M) := by
  unfold fX11_tells
  refine b_aload_n hO dX11_tells_0 0 rfl rfl ?_
  refine b_getR hO flX11_19 kLX_0 (id := 1) rfl rfl (rk := 9) rfl (by decide) dX11_tells_1 (fun hg1 => ?_)
  refine b_iload_n hO dX11_tells_4 1 rfl rfl ?_
  refine b_callVI hO mdX9_isCorner mvX9_isCorner w928 (ci := 9) rfl rfl (by decide) hg1 (As := [.int _]) (st := []) (ctX9_isCorner n0 _ hg1 hO.2.2.2.2.2.2.1 _ _) (Nat.le_of_ble_eq_true rfl) rfl rfl (Nat.le_of_ble_eq_true rfl) dX11_tells_5 (fun z5 => ?_)
  refine b_if_eq hO dX11_tells_8 (tgt := 20) (by decide) ?_ ?_
  · refine b_iconst hO dX11_tells_20 ic_i_m1 ?_
    exact b_iret hO dX11_tells_21
  · refine b_iload_n hO dX11_tells_11 2 rfl rfl ?_
    refine b_if_lt hO dX11_tells_12 (tgt := 20) (by decide) ?_ ?_
    · refine b_iconst hO dX11_tells_20 ic_i_m1 ?_
      exact b_iret hO dX11_tells_21
    · refine b_iload_n hO dX11_tells_15 2 rfl rfl ?_
      refine b_iconst hO dX11_tells_16 ic_i_1 ?_
      refine b_icmp_le hO dX11_tells_17 (tgt := 22) (by decide) ?_ ?_
      · refine b_aload_n hO dX11_tells_22 0 rfl rfl ?_
        refine b_iload_n hO dX11_tells_23 1 rfl rfl ?_
        refine b_callVI hO mdX11_findHeld mvX11_findHeld w1098 (ci := 11) rfl rfl (by decide) kLX_0 (As := [.int _]) (st := []) (ctX11_findHeld n0 hO.2.2.2.2.2.2.1 _ _) (Nat.le_of_ble_eq_true rfl) rfl rfl (Nat.le_of_ble_eq_true rfl) dX11_tells_24 (fun z24 => ?_)
        refine b_istore_n hO dX11_tells_27 rfl (by decide) (lv' := [(3, .int _), (0, .ref _), (1, .int _), (2, .int _)]) rfl ?_
        refine b_iload_n hO dX11_tells_28 0 rfl rfl ?_
        refine b_if_ne hO dX11_tells_29 (tgt := 34) (by decide) ?_ ?_
        · refine b_bipush hO dX11_tells_34 ic_b_40 ?_
          refine b_sipush hO dX11_tells_36 ic_s_9999 ?_
          refine b_aload_n hO dX11_tells_39 1 rfl rfl ?_
          refine b_get hO flX11_47 kLX_0 (v := .ref (ad 10)) rfl dX11_tells_40 ?_
          refine b_get hO flX11_148 kLX_10 (v := .int (gI _ 1281)) rfl dX11_tells_43 ?_
          refine b_isub hO dX11_tells_46 ?_
          refine b_mmin hO w1118 w591 w136 wm592 (by first | decide | omega) (Nat.le_of_ble_eq_true rfl) dX11_tells_47 ?_
          refine b_topI (fun x4_50 => ?_)
          refine b_istore hO dX11_tells_50 (by decide) (lv' := [(4, .int _), (3, .int _), (0, .ref _), (1, .int _), (2, .int _)]) rfl ?_
          refine b_iconst hO dX11_tells_52 ic_i_0 ?_
          refine b_istore hO dX11_tells_53 (by decide) (lv' := [(5, .int _), (4, .int _), (3, .int _), (0, .ref _), (1, .int _), (2, .int _)]) rfl ?_
          refine b_aload_n hO dX11_tells_55 3 rfl rfl ?_
          refine b_get hO flX11_68 kLX_0 (v := .ref (ad 21)) rfl dX11_tells_56 ?_
          refine b_iload_n hO dX11_tells_59 2 rfl rfl ?_
          refine b_iconst hO dX11_tells_60 ic_i_0 ?_
          refine b_callVI hO mdX5_mostLeft mvX5_mostLeft w1119 (ci := 5) rfl rfl (by decide) kLX_21 (As := [.int _, .int _]) (st := []) (ctX5_mostLeft n0 hO.2.2.2.2.2.2.1 _ _ _) (Nat.le_of_ble_eq_true rfl) rfl rfl (Nat.le_of_ble_eq_true rfl) dX11_tells_61 (fun z61 => ?_)
          refine b_istore hO dX11_tells_64 (by decide) (lv' := [(6, .int _), (5, .int _), (4, .int _), (3, .int _), (0, .ref _), (1, .int _), (2, .int _)]) rfl ?_
          refine b_iconst hO dX11_tells_66 ic_i_1 ?_
          refine b_istore hO dX11_tells_67 (by decide) (lv' := [(7, .int _), (6, .int _), (5, .int _), (4, .int _), (3, .int _), (0, .ref _), (1, .int _), (2, .int _)]) rfl ?_
          refine b_sub [5, 7, 4, 3, 2, 1, 0] rfl ?_
          exact tfX11_tells_69 n0 hO _ _ _ _ _ _ _
        · refine b_iconst hO dX11_tells_32 ic_i_m1 ?_
          exact b_iret hO dX11_tells_33
      · refine b_iconst hO dX11_tells_20 ic_i_m1 ?_
        exact b_iret hO dX11_tells_21
theorem ctX11_tells (n0 : Nat) (hI : Inj LX ad) (x1 : Int32) (x2 : Int32) (M : Mem) : CT l LX D cy ad yX11_tells cX11_tells 9 (some .int) 8 (QI LX D cy ad) [.ref (ad 0), .int x1, .int x2] M (fX11_tells n0 x1 x2 M) :=
  CT.mk LXok hI (by decide) (Nat.le_of_ble_eq_true rfl) (fun hO => tfX11_tells n0 hO x1 x2 M)
end
end
section
section
variable {p : Program} {l : Launch} {e : Env} {s : State} {m : MethodId} {args : Array Value} {below : List Frame} {meth : Method} {c : Code} {D : va_G} {cy : Nat → ClassId} {ad : Nat → Nat} {dd : Nat}

/-! X11_minutes -/
def fX11_minutes_19 (n0 : Nat) (M : Mem) : Option (Int32 × Mem) :=
  (fX11_refuse n0 (2 : Int32) M).bind fun z21 =>
  some (z21.1, z21.2)
def bX11_minutes_40 (n0 : Nat) (k40 : Int32 → Int32 → Int32 → Mem → Option (Int32 × Mem)) (x1 : Int32) (x2 : Int32) (x3 : Int32) (M : Mem) : Option (Int32 × Mem) :=
  if x1 ≤ x3 then
    some (x2, M)
  else
    (fX6_goOn n0 M).bind fun z53 =>
    (fX6_doWhatIsDue n0 z53).bind fun z65 =>
    bnd (x2 + z65.1) fun x2_69 =>
    k40 x1 x2_69 (x3 + (1 : Int32)) z65.2
def fX11_minutes_40 (n0 : Nat) : Int32 → Int32 → Int32 → Mem → Option (Int32 × Mem) := loopN (bX11_minutes_40 n0) (fun _ _ _ _ => none) n0
def fX11_minutes (n0 : Nat) (x1 : Int32) (M : Mem) : Option (Int32 × Mem) :=
  if x1 < (1 : Int32) then
    fX11_minutes_19 n0 M
  else
    if (100 : Int32) < x1 then
      fX11_minutes_19 n0 M
    else
      (fX11_isBeyond n0 x1 M).bind fun z13 =>
      if z13.1 = 0 then
        (fX2_remember n0 z13.2).bind fun z33 =>
        fX11_minutes_40 n0 x1 (0 : Int32) (0 : Int32) z33
      else
        fX11_minutes_19 n0 z13.2
theorem tfX11_minutes_19 (n0 : Nat) (hO : OKc p (rmL 7) s m args meth c LX D cy ad cX11_minutes RX11 4 7 (some .int)) (M : Mem) : BL p l e (rmL 7) s m args below meth c LX D cy ad 4 (QI LX D cy ad) 19 [(0, .ref (ad 0))] [] M (fX11_minutes_19 n0 M) := by
  unfold fX11_minutes_19
  refine b_aload_n hO dX11_minutes_19 0 rfl rfl ?_
  refine b_iconst hO dX11_minutes_20 ic_i_2 ?_
  refine b_callVI hO mdX11_refuse mvX11_refuse w671 (ci := 11) rfl rfl (by decide) kLX_0 (As := [.int _]) (st := []) (ctX11_refuse n0 hO.2.2.2.2.2.2.1 _ _) (Nat.le_of_ble_eq_true rfl) rfl rfl (Nat.le_of_ble_eq_true rfl) dX11_minutes_21 (fun z21 => ?_)
  exact b_iret hO dX11_minutes_24
theorem tbX11_minutes_40 (n0 : Nat) (hO : OKc p (rmL 7) s m args meth c LX D cy ad cX11_minutes RX11 4 7 (some .int)) (k40 : Int32 → Int32 → Int32 → Mem → Option (Int32 × Mem)) (hk40 : ∀ (x1 : Int32) (x2 : Int32) (x3 : Int32) (M : Mem), BL p l e (rmL 7) s m args below meth c LX D cy ad 4 (QI LX D cy ad) 40 [(0, .ref (ad 0)), (1, .int x1), (2, .int x2), (3, .int x3)] [] M (k40 x1 x2 x3 M)) (x1 : Int32) (x2 : Int32) (x3 : Int32) (M : Mem) : BL p l e (rmL 7) s m args below meth c LX D cy ad 4 (QI LX D cy ad) 40 [(0, .ref (ad 0)), (1, .int x1), (2, .int x2), (3, .int x3)] [] M (bX11_minutes_40 n0 k40 x1 x2 x3 M) := by
  unfold bX11_minutes_40
  refine b_iload_n hO dX11_minutes_40 3 rfl rfl ?_
  refine b_iload_n hO dX11_minutes_41 1 rfl rfl ?_
  refine b_icmp_ge hO dX11_minutes_42 (tgt := 76) (by decide) ?_ ?_
  · refine b_iload_n hO dX11_minutes_76 2 rfl rfl ?_
    exact b_iret hO dX11_minutes_77
  · refine b_aload_n hO dX11_minutes_45 0 rfl rfl ?_
    refine b_get hO flX11_47 kLX_0 (v := .ref (ad 10)) rfl dX11_minutes_46 ?_
    refine b_aload_n hO dX11_minutes_49 0 rfl rfl ?_
    refine b_get hO flX11_40 kLX_0 (v := .ref (ad 7)) rfl dX11_minutes_50 ?_
    refine b_callVV hO mdX6_goOn mvX6_goOn w1140 (ci := 6) rfl rfl (by decide) kLX_10 (As := [.ref _]) (st := []) (ctX6_goOn n0 hO.2.2.2.2.2.2.1 _) (Nat.le_of_ble_eq_true rfl) rfl rfl (Nat.le_of_ble_eq_true rfl) dX11_minutes_53 (fun z53 => ?_)
    refine b_iload_n hO dX11_minutes_56 2 rfl rfl ?_
    refine b_aload_n hO dX11_minutes_57 0 rfl rfl ?_
    refine b_get hO flX11_47 kLX_0 (v := .ref (ad 10)) rfl dX11_minutes_58 ?_
    refine b_aload_n hO dX11_minutes_61 0 rfl rfl ?_
    refine b_get hO flX11_40 kLX_0 (v := .ref (ad 7)) rfl dX11_minutes_62 ?_
    refine b_callVI hO mdX6_doWhatIsDue mvX6_doWhatIsDue w552 (ci := 6) rfl rfl (by decide) kLX_10 (As := [.ref _]) (st := [.int _]) (ctX6_doWhatIsDue n0 hO.2.2.2.2.2.2.1 _) (Nat.le_of_ble_eq_true rfl) rfl rfl (Nat.le_of_ble_eq_true rfl) dX11_minutes_65 (fun z65 => ?_)
    refine b_iadd hO dX11_minutes_68 ?_
    refine b_topI (fun x2_69 => ?_)
    refine b_istore_n hO dX11_minutes_69 rfl (by decide) (lv' := [(2, .int _), (0, .ref _), (1, .int _), (3, .int _)]) rfl ?_
    refine b_iinc hO dX11_minutes_70 3 rfl ic_i_1 (by decide) (lv' := [(3, .int _), (2, .int _), (0, .ref _), (1, .int _)]) rfl ?_
    refine b_goto hO dX11_minutes_73 (tgt := 40) (by decide) ?_
    refine b_sub [2, 3, 1, 0] rfl ?_
    exact hk40 _ _ _ _
theorem lX11_minutes_40 (n0 : Nat) (hO : OKc p (rmL 7) s m args meth c LX D cy ad cX11_minutes RX11 4 7 (some .int)) : ∀ (w : Nat) (x1 : Int32) (x2 : Int32) (x3 : Int32) (M : Mem), BL p l e (rmL 7) s m args below meth c LX D cy ad 4 (QI LX D cy ad) 40 [(0, .ref (ad 0)), (1, .int x1), (2, .int x2), (3, .int x3)] [] M (loopN (bX11_minutes_40 n0) (fun _ _ _ _ => none) w x1 x2 x3 M) := by
  intro w
  induction w with
  | zero =>
    intros
    exact b_none
  | succ w ih =>
    intro x1 x2 x3 M
    exact tbX11_minutes_40 n0 hO _ ih x1 x2 x3 M
theorem tfX11_minutes_40 (n0 : Nat) (hO : OKc p (rmL 7) s m args meth c LX D cy ad cX11_minutes RX11 4 7 (some .int)) (x1 : Int32) (x2 : Int32) (x3 : Int32) (M : Mem) : BL p l e (rmL 7) s m args below meth c LX D cy ad 4 (QI LX D cy ad) 40 [(0, .ref (ad 0)), (1, .int x1), (2, .int x2), (3, .int x3)] [] M (fX11_minutes_40 n0 x1 x2 x3 M) := lX11_minutes_40 n0 hO n0 x1 x2 x3 M
theorem tfX11_minutes (n0 : Nat) (hO : OKc p (rmL 7) s m args meth c LX D cy ad cX11_minutes RX11 4 7 (some .int)) (x1 : Int32) (M : Mem) : BL p l e (rmL 7) s m args below meth c LX D cy ad 4 (QI LX D cy ad) 0 [(0, .ref (ad 0)), (1, .int x1)] [] M (fX11_minutes n0 x1 M) := by
  unfold fX11_minutes
  refine b_iload_n hO dX11_minutes_0 1 rfl rfl ?_
  refine b_iconst hO dX11_minutes_1 ic_i_1 ?_
  refine b_icmp_lt hO dX11_minutes_2 (tgt := 19) (by decide) ?_ ?_
  · refine b_sub [0] rfl ?_
    exact tfX11_minutes_19 n0 hO _
  · refine b_iload_n hO dX11_minutes_5 1 rfl rfl ?_
    refine b_bipush hO dX11_minutes_6 ic_b_100 ?_
    refine b_icmp_gt hO dX11_minutes_8 (tgt := 19) (by decide) ?_ ?_
    · refine b_sub [0] rfl ?_
      exact tfX11_minutes_19 n0 hO _
    · refine b_aload_n hO dX11_minutes_11 0 rfl rfl ?_
      refine b_iload_n hO dX11_minutes_12 1 rfl rfl ?_
      refine b_callVI hO mdX11_isBeyond mvX11_isBeyond w962 (ci := 11) rfl rfl (by decide) kLX_0 (As := [.int _]) (st := []) (ctX11_isBeyond n0 hO.2.2.2.2.2.2.1 _ _) (Nat.le_of_ble_eq_true rfl) rfl rfl (Nat.le_of_ble_eq_true rfl) dX11_minutes_13 (fun z13 => ?_)
      refine b_if_eq hO dX11_minutes_16 (tgt := 25) (by decide) ?_ ?_
      · refine b_aload_n hO dX11_minutes_25 0 rfl rfl ?_
        refine b_get hO flX11_54 kLX_0 (v := .ref (ad 16)) rfl dX11_minutes_26 ?_
        refine b_aload_n hO dX11_minutes_29 0 rfl rfl ?_
        refine b_get hO flX11_47 kLX_0 (v := .ref (ad 10)) rfl dX11_minutes_30 ?_
        refine b_callVV hO mdX2_remember mvX2_remember w1128 (ci := 2) rfl rfl (by decide) kLX_16 (As := [.ref _]) (st := []) (ctX2_remember n0 hO.2.2.2.2.2.2.1 _) (Nat.le_of_ble_eq_true rfl) rfl rfl (Nat.le_of_ble_eq_true rfl) dX11_minutes_33 (fun z33 => ?_)
        refine b_iconst hO dX11_minutes_36 ic_i_0 ?_
        refine b_istore_n hO dX11_minutes_37 rfl (by decide) (lv' := [(2, .int _), (0, .ref _), (1, .int _)]) rfl ?_
        refine b_iconst hO dX11_minutes_38 ic_i_0 ?_
        refine b_istore_n hO dX11_minutes_39 rfl (by decide) (lv' := [(3, .int _), (2, .int _), (0, .ref _), (1, .int _)]) rfl ?_
        refine b_sub [2, 3, 1, 0] rfl ?_
        exact tfX11_minutes_40 n0 hO _ _ _ _
      · refine b_sub [0] rfl ?_
        exact tfX11_minutes_19 n0 hO _
theorem ctX11_minutes (n0 : Nat) (hI : Inj LX ad) (x1 : Int32) (M : Mem) : CT l LX D cy ad yX11_minutes cX11_minutes 4 (some .int) 7 (QI LX D cy ad) [.ref (ad 0), .int x1] M (fX11_minutes n0 x1 M) :=
  CT.mk LXok hI (by decide) (Nat.le_of_ble_eq_true rfl) (fun hO => tfX11_minutes n0 hO x1 M)
/-! X11_draw -/
def fX11_draw (n0 : Nat) (x1 : Int32) (M : Mem) : Option (Int32 × Mem) :=
  bnd (sI M 17 (((((1103515245 : Int64) * ((gI M 17)).toInt64) + (12345 : Int64)) &&& (2147483647 : Int64))).toInt32) fun M19 =>
  if x1 ≤ 0 then
    some ((0 : Int32), M19)
  else
    if (64 : Int32) = 0 then none else
    if x1 = 0 then none else
    some ((rem32 ((gI M19 17) / (64 : Int32)) x1), M19)
theorem tfX11_draw (n0 : Nat) (hO : OKc p (rmL 1) s m args meth c LX D cy ad cX11_draw RX11 2 1 (some .int)) (x1 : Int32) (M : Mem) : BL p l e (rmL 1) s m args below meth c LX D cy ad 2 (QI LX D cy ad) 0 [(0, .ref (ad 0)), (1, .int x1)] [] M (fX11_draw n0 x1 M) := by
  unfold fX11_draw
  refine b_aload_n hO dX11_draw_0 0 rfl rfl ?_
  refine b_ldc2 hO w1158 dX11_draw_1 ?_
  refine b_aload_n hO dX11_draw_4 0 rfl rfl ?_
  refine b_get hO flX11_98 kLX_0 (v := .int (gI _ 17)) rfl dX11_draw_5 ?_
  refine b_i2l hO dX11_draw_8 ?_
  refine b_lmul hO dX11_draw_9 ?_
  refine b_ldc2 hO w1159 dX11_draw_10 ?_
  refine b_ladd hO dX11_draw_13 ?_
  refine b_ldc2 hO w1160 dX11_draw_14 ?_
  refine b_land hO dX11_draw_17 ?_
  refine b_l2i hO dX11_draw_18 ?_
  refine b_putI hO flX11_98 kLX_0 rfl rfl rfl (id := 17) rfl dX11_draw_19 ?_
  refine b_bnd (fun M19 => ?_)
  refine b_iload_n hO dX11_draw_22 1 rfl rfl ?_
  refine b_if_le hO dX11_draw_23 (tgt := 38) (by decide) ?_ ?_
  · refine b_iconst hO dX11_draw_38 ic_i_0 ?_
    exact b_iret hO dX11_draw_39
  · refine b_aload_n hO dX11_draw_26 0 rfl rfl ?_
    refine b_get hO flX11_98 kLX_0 (v := .int (gI _ 17)) rfl dX11_draw_27 ?_
    refine b_bipush hO dX11_draw_30 ic_b_64 ?_
    refine b_idiv hO dX11_draw_32 ?_
    refine b_iload_n hO dX11_draw_33 1 rfl rfl ?_
    refine b_irem hO dX11_draw_34 ?_
    refine b_goto hO dX11_draw_35 (tgt := 39) (by decide) ?_
    exact b_iret hO dX11_draw_39
theorem ctX11_draw (n0 : Nat) (hI : Inj LX ad) (x1 : Int32) (M : Mem) : CT l LX D cy ad yX11_draw cX11_draw 2 (some .int) 1 (QI LX D cy ad) [.ref (ad 0), .int x1] M (fX11_draw n0 x1 M) :=
  CT.mk LXok hI (by decide) (Nat.le_of_ble_eq_true rfl) (fun hO => tfX11_draw n0 hO x1 M)
/-! X11_letPass -/
def fX11_letPass (n0 : Nat) (M : Mem) : Option (Int32 × Mem) :=
  (fX11_draw n0 (100 : Int32) M).bind fun z3 =>
  if (gI z3.2 (128 * (gR z3.2 1) + 16)) ≤ z3.1 then
    some ((0 : Int32), z3.2)
  else
    if (gI z3.2 (128 * (gR z3.2 1) + 5)) = 0 then
      some ((0 : Int32), z3.2)
    else
      if (gI z3.2 (128 * (gR z3.2 1) + 1)) = 0 then
        some ((0 : Int32), z3.2)
      else
        (fX11_draw n0 (gI z3.2 (128 * (gR z3.2 1) + 5)) z3.2).bind fun z46 =>
        (fX11_draw n0 (gI z46.2 (128 * (gR z46.2 1) + 1)) z46.2).bind fun z63 =>
        (fX6_put n0 z46.1 z63.1 z63.2).bind fun z66 =>
        some ((1 : Int32), z66)
theorem tfX11_letPass (n0 : Nat) (hO : OKc p (rmL 2) s m args meth c LX D cy ad cX11_letPass RX11 2 2 (some .int)) (M : Mem) : BL p l e (rmL 2) s m args below meth c LX D cy ad 2 (QI LX D cy ad) 0 [(0, .ref (ad 0))] [] M (fX11_letPass n0 M) := by
  unfold fX11_letPass
  refine b_aload_n hO dX11_letPass_0 0 rfl rfl ?_
  refine b_bipush hO dX11_letPass_1 ic_b_100 ?_
  refine b_callVI hO mdX11_draw mvX11_draw w1154 (ci := 11) rfl rfl (by decide) kLX_0 (As := [.int _]) (st := []) (ctX11_draw n0 hO.2.2.2.2.2.2.1 _ _) (Nat.le_of_ble_eq_true rfl) rfl rfl (Nat.le_of_ble_eq_true rfl) dX11_letPass_3 (fun z3 => ?_)
  refine b_aload_n hO dX11_letPass_6 0 rfl rfl ?_
  refine b_getR hO flX11_19 kLX_0 (id := 1) rfl rfl (rk := 9) rfl (by decide) dX11_letPass_7 (fun hg1 => ?_)
  refine b_get hO flX11_346 hg1 (v := .int (gI _ (128 * (gR z3.2 1) + 16))) rfl dX11_letPass_10 ?_
  refine b_icmp_ge hO dX11_letPass_13 (tgt := 36) (by decide) ?_ ?_
  · refine b_iconst hO dX11_letPass_36 ic_i_0 ?_
    exact b_iret hO dX11_letPass_37
  · refine b_aload_n hO dX11_letPass_16 0 rfl rfl ?_
    refine b_getR hO flX11_19 kLX_0 (id := 1) rfl rfl (rk := 9) rfl (by decide) dX11_letPass_17 (fun hg2 => ?_)
    refine b_get hO flX11_139 hg2 (v := .int (gI _ (128 * (gR z3.2 1) + 5))) rfl dX11_letPass_20 ?_
    refine b_if_eq hO dX11_letPass_23 (tgt := 36) (by decide) ?_ ?_
    · refine b_iconst hO dX11_letPass_36 ic_i_0 ?_
      exact b_iret hO dX11_letPass_37
    · refine b_aload_n hO dX11_letPass_26 0 rfl rfl ?_
      refine b_getR hO flX11_19 kLX_0 (id := 1) rfl rfl (rk := 9) rfl (by decide) dX11_letPass_27 (fun hg3 => ?_)
      refine b_get hO flX11_136 hg3 (v := .int (gI _ (128 * (gR z3.2 1) + 1))) rfl dX11_letPass_30 ?_
      refine b_if_ne hO dX11_letPass_33 (tgt := 38) (by decide) ?_ ?_
      · refine b_aload_n hO dX11_letPass_38 0 rfl rfl ?_
        refine b_aload_n hO dX11_letPass_39 0 rfl rfl ?_
        refine b_getR hO flX11_19 kLX_0 (id := 1) rfl rfl (rk := 9) rfl (by decide) dX11_letPass_40 (fun hg4 => ?_)
        refine b_get hO flX11_139 hg4 (v := .int (gI _ (128 * (gR z3.2 1) + 5))) rfl dX11_letPass_43 ?_
        refine b_callVI hO mdX11_draw mvX11_draw w1154 (ci := 11) rfl rfl (by decide) kLX_0 (As := [.int _]) (st := []) (ctX11_draw n0 hO.2.2.2.2.2.2.1 _ _) (Nat.le_of_ble_eq_true rfl) rfl rfl (Nat.le_of_ble_eq_true rfl) dX11_letPass_46 (fun z46 => ?_)
        refine b_istore_n hO dX11_letPass_49 rfl (by decide) (lv' := [(1, .int _), (0, .ref _)]) rfl ?_
        refine b_aload_n hO dX11_letPass_50 1 rfl rfl ?_
        refine b_get hO flX11_47 kLX_0 (v := .ref (ad 10)) rfl dX11_letPass_51 ?_
        refine b_iload_n hO dX11_letPass_54 0 rfl rfl ?_
        refine b_aload_n hO dX11_letPass_55 1 rfl rfl ?_
        refine b_aload_n hO dX11_letPass_56 1 rfl rfl ?_
        refine b_getR hO flX11_19 kLX_0 (id := 1) rfl rfl (rk := 9) rfl (by decide) dX11_letPass_57 (fun hg5 => ?_)
        refine b_get hO flX11_136 hg5 (v := .int (gI _ (128 * (gR z46.2 1) + 1))) rfl dX11_letPass_60 ?_
        refine b_callVI hO mdX11_draw mvX11_draw w1154 (ci := 11) rfl rfl (by decide) kLX_0 (As := [.int _]) (st := [.int _, .ref _]) (ctX11_draw n0 hO.2.2.2.2.2.2.1 _ _) (Nat.le_of_ble_eq_true rfl) rfl rfl (Nat.le_of_ble_eq_true rfl) dX11_letPass_63 (fun z63 => ?_)
        refine b_callVV hO mdX6_put mvX6_put w1161 (ci := 6) rfl rfl (by decide) kLX_10 (As := [.int _, .int _]) (st := []) (ctX6_put n0 hO.2.2.2.2.2.2.1 _ _ _) (Nat.le_of_ble_eq_true rfl) rfl rfl (Nat.le_of_ble_eq_true rfl) dX11_letPass_66 (fun z66 => ?_)
        refine b_iconst hO dX11_letPass_69 ic_i_1 ?_
        exact b_iret hO dX11_letPass_70
      · refine b_iconst hO dX11_letPass_36 ic_i_0 ?_
        exact b_iret hO dX11_letPass_37
theorem ctX11_letPass (n0 : Nat) (hI : Inj LX ad) (M : Mem) : CT l LX D cy ad yX11_letPass cX11_letPass 2 (some .int) 2 (QI LX D cy ad) [.ref (ad 0)] M (fX11_letPass n0 M) :=
  CT.mk LXok hI (by decide) (Nat.le_of_ble_eq_true rfl) (fun hO => tfX11_letPass n0 hO M)
/-! X11_chance -/
def fX11_chance_19 (n0 : Nat) (M : Mem) : Option (Int32 × Mem) :=
  (fX11_refuse n0 (2 : Int32) M).bind fun z21 =>
  some (z21.1, z21.2)
def bX11_chance_40 (n0 : Nat) (k40 : Int32 → Int32 → Int32 → Mem → Option (Int32 × Mem)) (x1 : Int32) (x2 : Int32) (x3 : Int32) (M : Mem) : Option (Int32 × Mem) :=
  if x1 ≤ x3 then
    some (x2, M)
  else
    (fX6_goOn n0 M).bind fun z53 =>
    (fX11_letPass n0 z53).bind fun z58 =>
    bnd (x2 + z58.1) fun x2_62 =>
    (fX6_doWhatIsDue n0 z58.2).bind fun z71 =>
    k40 x1 x2_62 (x3 + (1 : Int32)) z71.2
def fX11_chance_40 (n0 : Nat) : Int32 → Int32 → Int32 → Mem → Option (Int32 × Mem) := loopN (bX11_chance_40 n0) (fun _ _ _ _ => none) n0
def fX11_chance (n0 : Nat) (x1 : Int32) (M : Mem) : Option (Int32 × Mem) :=
  if x1 < (1 : Int32) then
    fX11_chance_19 n0 M
  else
    if (100 : Int32) < x1 then
      fX11_chance_19 n0 M
    else
      (fX11_isBeyond n0 x1 M).bind fun z13 =>
      if z13.1 = 0 then
        (fX2_remember n0 z13.2).bind fun z33 =>
        fX11_chance_40 n0 x1 (0 : Int32) (0 : Int32) z33
      else
        fX11_chance_19 n0 z13.2
theorem tfX11_chance_19 (n0 : Nat) (hO : OKc p (rmL 7) s m args meth c LX D cy ad cX11_chance RX11 4 7 (some .int)) (M : Mem) : BL p l e (rmL 7) s m args below meth c LX D cy ad 4 (QI LX D cy ad) 19 [(0, .ref (ad 0))] [] M (fX11_chance_19 n0 M) := by
  unfold fX11_chance_19
  refine b_aload_n hO dX11_chance_19 0 rfl rfl ?_
  refine b_iconst hO dX11_chance_20 ic_i_2 ?_
  refine b_callVI hO mdX11_refuse mvX11_refuse w671 (ci := 11) rfl rfl (by decide) kLX_0 (As := [.int _]) (st := []) (ctX11_refuse n0 hO.2.2.2.2.2.2.1 _ _) (Nat.le_of_ble_eq_true rfl) rfl rfl (Nat.le_of_ble_eq_true rfl) dX11_chance_21 (fun z21 => ?_)
  exact b_iret hO dX11_chance_24
theorem tbX11_chance_40 (n0 : Nat) (hO : OKc p (rmL 7) s m args meth c LX D cy ad cX11_chance RX11 4 7 (some .int)) (k40 : Int32 → Int32 → Int32 → Mem → Option (Int32 × Mem)) (hk40 : ∀ (x1 : Int32) (x2 : Int32) (x3 : Int32) (M : Mem), BL p l e (rmL 7) s m args below meth c LX D cy ad 4 (QI LX D cy ad) 40 [(0, .ref (ad 0)), (1, .int x1), (2, .int x2), (3, .int x3)] [] M (k40 x1 x2 x3 M)) (x1 : Int32) (x2 : Int32) (x3 : Int32) (M : Mem) : BL p l e (rmL 7) s m args below meth c LX D cy ad 4 (QI LX D cy ad) 40 [(0, .ref (ad 0)), (1, .int x1), (2, .int x2), (3, .int x3)] [] M (bX11_chance_40 n0 k40 x1 x2 x3 M) := by
  unfold bX11_chance_40
  refine b_iload_n hO dX11_chance_40 3 rfl rfl ?_
  refine b_iload_n hO dX11_chance_41 1 rfl rfl ?_
  refine b_icmp_ge hO dX11_chance_42 (tgt := 81) (by decide) ?_ ?_
  · refine b_iload_n hO dX11_chance_81 2 rfl rfl ?_
    exact b_iret hO dX11_chance_82
  · refine b_aload_n hO dX11_chance_45 0 rfl rfl ?_
    refine b_get hO flX11_47 kLX_0 (v := .ref (ad 10)) rfl dX11_chance_46 ?_
    refine b_aload_n hO dX11_chance_49 0 rfl rfl ?_
    refine b_get hO flX11_40 kLX_0 (v := .ref (ad 7)) rfl dX11_chance_50 ?_
    refine b_callVV hO mdX6_goOn mvX6_goOn w1140 (ci := 6) rfl rfl (by decide) kLX_10 (As := [.ref _]) (st := []) (ctX6_goOn n0 hO.2.2.2.2.2.2.1 _) (Nat.le_of_ble_eq_true rfl) rfl rfl (Nat.le_of_ble_eq_true rfl) dX11_chance_53 (fun z53 => ?_)
    refine b_iload_n hO dX11_chance_56 2 rfl rfl ?_
    refine b_aload_n hO dX11_chance_57 0 rfl rfl ?_
    refine b_callVI hO mdX11_letPass mvX11_letPass w1150 (ci := 11) rfl rfl (by decide) kLX_0 (As := []) (st := [.int _]) (ctX11_letPass n0 hO.2.2.2.2.2.2.1 _) (Nat.le_of_ble_eq_true rfl) rfl rfl (Nat.le_of_ble_eq_true rfl) dX11_chance_58 (fun z58 => ?_)
    refine b_iadd hO dX11_chance_61 ?_
    refine b_topI (fun x2_62 => ?_)
    refine b_istore_n hO dX11_chance_62 rfl (by decide) (lv' := [(2, .int _), (0, .ref _), (1, .int _), (3, .int _)]) rfl ?_
    refine b_aload_n hO dX11_chance_63 1 rfl rfl ?_
    refine b_get hO flX11_47 kLX_0 (v := .ref (ad 10)) rfl dX11_chance_64 ?_
    refine b_aload_n hO dX11_chance_67 1 rfl rfl ?_
    refine b_get hO flX11_40 kLX_0 (v := .ref (ad 7)) rfl dX11_chance_68 ?_
    refine b_callVI hO mdX6_doWhatIsDue mvX6_doWhatIsDue w552 (ci := 6) rfl rfl (by decide) kLX_10 (As := [.ref _]) (st := []) (ctX6_doWhatIsDue n0 hO.2.2.2.2.2.2.1 _) (Nat.le_of_ble_eq_true rfl) rfl rfl (Nat.le_of_ble_eq_true rfl) dX11_chance_71 (fun z71 => ?_)
    refine b_pop hO dX11_chance_74 rfl ?_
    refine b_iinc hO dX11_chance_75 3 rfl ic_i_1 (by decide) (lv' := [(3, .int _), (2, .int _), (0, .ref _), (1, .int _)]) rfl ?_
    refine b_goto hO dX11_chance_78 (tgt := 40) (by decide) ?_
    refine b_sub [2, 3, 1, 0] rfl ?_
    exact hk40 _ _ _ _
theorem lX11_chance_40 (n0 : Nat) (hO : OKc p (rmL 7) s m args meth c LX D cy ad cX11_chance RX11 4 7 (some .int)) : ∀ (w : Nat) (x1 : Int32) (x2 : Int32) (x3 : Int32) (M : Mem), BL p l e (rmL 7) s m args below meth c LX D cy ad 4 (QI LX D cy ad) 40 [(0, .ref (ad 0)), (1, .int x1), (2, .int x2), (3, .int x3)] [] M (loopN (bX11_chance_40 n0) (fun _ _ _ _ => none) w x1 x2 x3 M) := by
  intro w
  induction w with
  | zero =>
    intros
    exact b_none
  | succ w ih =>
    intro x1 x2 x3 M
    exact tbX11_chance_40 n0 hO _ ih x1 x2 x3 M
theorem tfX11_chance_40 (n0 : Nat) (hO : OKc p (rmL 7) s m args meth c LX D cy ad cX11_chance RX11 4 7 (some .int)) (x1 : Int32) (x2 : Int32) (x3 : Int32) (M : Mem) : BL p l e (rmL 7) s m args below meth c LX D cy ad 4 (QI LX D cy ad) 40 [(0, .ref (ad 0)), (1, .int x1), (2, .int x2), (3, .int x3)] [] M (fX11_chance_40 n0 x1 x2 x3 M) := lX11_chance_40 n0 hO n0 x1 x2 x3 M
theorem tfX11_chance (n0 : Nat) (hO : OKc p (rmL 7) s m args meth c LX D cy ad cX11_chance RX11 4 7 (some .int)) (x1 : Int32) (M : Mem) : BL p l e (rmL 7) s m args below meth c LX D cy ad 4 (QI LX D cy ad) 0 [(0, .ref (ad 0)), (1, .int x1)] [] M (fX11_chance n0 x1 M) := by
  unfold fX11_chance
  refine b_iload_n hO dX11_chance_0 1 rfl rfl ?_
  refine b_iconst hO dX11_chance_1 ic_i_1 ?_
  refine b_icmp_lt hO dX11_chance_2 (tgt := 19) (by decide) ?_ ?_
  · refine b_sub [0] rfl ?_
    exact tfX11_chance_19 n0 hO _
  · refine b_iload_n hO dX11_chance_5 1 rfl rfl ?_
    refine b_bipush hO dX11_chance_6 ic_b_100 ?_
    refine b_icmp_gt hO dX11_chance_8 (tgt := 19) (by decide) ?_ ?_
    · refine b_sub [0] rfl ?_
      exact tfX11_chance_19 n0 hO _
    · refine b_aload_n hO dX11_chance_11 0 rfl rfl ?_
      refine b_iload_n hO dX11_chance_12 1 rfl rfl ?_
      refine b_callVI hO mdX11_isBeyond mvX11_isBeyond w962 (ci := 11) rfl rfl (by decide) kLX_0 (As := [.int _]) (st := []) (ctX11_isBeyond n0 hO.2.2.2.2.2.2.1 _ _) (Nat.le_of_ble_eq_true rfl) rfl rfl (Nat.le_of_ble_eq_true rfl) dX11_chance_13 (fun z13 => ?_)
      refine b_if_eq hO dX11_chance_16 (tgt := 25) (by decide) ?_ ?_
      · refine b_aload_n hO dX11_chance_25 0 rfl rfl ?_
        refine b_get hO flX11_54 kLX_0 (v := .ref (ad 16)) rfl dX11_chance_26 ?_
        refine b_aload_n hO dX11_chance_29 0 rfl rfl ?_
        refine b_get hO flX11_47 kLX_0 (v := .ref (ad 10)) rfl dX11_chance_30 ?_
        refine b_callVV hO mdX2_remember mvX2_remember w1128 (ci := 2) rfl rfl (by decide) kLX_16 (As := [.ref _]) (st := []) (ctX2_remember n0 hO.2.2.2.2.2.2.1 _) (Nat.le_of_ble_eq_true rfl) rfl rfl (Nat.le_of_ble_eq_true rfl) dX11_chance_33 (fun z33 => ?_)
        refine b_iconst hO dX11_chance_36 ic_i_0 ?_
        refine b_istore_n hO dX11_chance_37 rfl (by decide) (lv' := [(2, .int _), (0, .ref _), (1, .int _)]) rfl ?_
        refine b_iconst hO dX11_chance_38 ic_i_0 ?_
        refine b_istore_n hO dX11_chance_39 rfl (by decide) (lv' := [(3, .int _), (2, .int _), (0, .ref _), (1, .int _)]) rfl ?_
        refine b_sub [2, 3, 1, 0] rfl ?_
        exact tfX11_chance_40 n0 hO _ _ _ _
      · refine b_sub [0] rfl ?_
        exact tfX11_chance_19 n0 hO _
theorem ctX11_chance (n0 : Nat) (hI : Inj LX ad) (x1 : Int32) (M : Mem) : CT l LX D cy ad yX11_chance cX11_chance 4 (some .int) 7 (QI LX D cy ad) [.ref (ad 0), .int x1] M (fX11_chance n0 x1 M) :=
  CT.mk LXok hI (by decide) (Nat.le_of_ble_eq_true rfl) (fun hO => tfX11_chance n0 hO x1 M)
/-! X11_putByAct -/
def fX11_putByAct (n0 : Nat) (x1 : Int32) (x2 : Int32) (M : Mem) : Option (Int32 × Mem) :=
  (fX2_remember n0 M).bind fun z8 =>
  (fX6_put n0 x1 x2 z8).bind fun z17 =>
  (fX6_doWhatIsDue n0 z17).bind fun z28 =>
  (fX11_hourAt n0 x1 z28.2).bind fun z34 =>
  some (z34.1, z34.2)
theorem tfX11_putByAct (n0 : Nat) (hO : OKc p (rmL 7) s m args meth c LX D cy ad cX11_putByAct RX11 3 7 (some .int)) (x1 : Int32) (x2 : Int32) (M : Mem) : BL p l e (rmL 7) s m args below meth c LX D cy ad 3 (QI LX D cy ad) 0 [(0, .ref (ad 0)), (1, .int x1), (2, .int x2)] [] M (fX11_putByAct n0 x1 x2 M) := by
  unfold fX11_putByAct
  refine b_aload_n hO dX11_putByAct_0 0 rfl rfl ?_
  refine b_get hO flX11_54 kLX_0 (v := .ref (ad 16)) rfl dX11_putByAct_1 ?_
  refine b_aload_n hO dX11_putByAct_4 0 rfl rfl ?_
  refine b_get hO flX11_47 kLX_0 (v := .ref (ad 10)) rfl dX11_putByAct_5 ?_
  refine b_callVV hO mdX2_remember mvX2_remember w1128 (ci := 2) rfl rfl (by decide) kLX_16 (As := [.ref _]) (st := []) (ctX2_remember n0 hO.2.2.2.2.2.2.1 _) (Nat.le_of_ble_eq_true rfl) rfl rfl (Nat.le_of_ble_eq_true rfl) dX11_putByAct_8 (fun z8 => ?_)
  refine b_aload_n hO dX11_putByAct_11 0 rfl rfl ?_
  refine b_get hO flX11_47 kLX_0 (v := .ref (ad 10)) rfl dX11_putByAct_12 ?_
  refine b_iload_n hO dX11_putByAct_15 1 rfl rfl ?_
  refine b_iload_n hO dX11_putByAct_16 2 rfl rfl ?_
  refine b_callVV hO mdX6_put mvX6_put w1161 (ci := 6) rfl rfl (by decide) kLX_10 (As := [.int _, .int _]) (st := []) (ctX6_put n0 hO.2.2.2.2.2.2.1 _ _ _) (Nat.le_of_ble_eq_true rfl) rfl rfl (Nat.le_of_ble_eq_true rfl) dX11_putByAct_17 (fun z17 => ?_)
  refine b_aload_n hO dX11_putByAct_20 0 rfl rfl ?_
  refine b_get hO flX11_47 kLX_0 (v := .ref (ad 10)) rfl dX11_putByAct_21 ?_
  refine b_aload_n hO dX11_putByAct_24 0 rfl rfl ?_
  refine b_get hO flX11_40 kLX_0 (v := .ref (ad 7)) rfl dX11_putByAct_25 ?_
  refine b_callVI hO mdX6_doWhatIsDue mvX6_doWhatIsDue w552 (ci := 6) rfl rfl (by decide) kLX_10 (As := [.ref _]) (st := []) (ctX6_doWhatIsDue n0 hO.2.2.2.2.2.2.1 _) (Nat.le_of_ble_eq_true rfl) rfl rfl (Nat.le_of_ble_eq_true rfl) dX11_putByAct_28 (fun z28 => ?_)
  refine b_pop hO dX11_putByAct_31 rfl ?_
  refine b_aload_n hO dX11_putByAct_32 0 rfl rfl ?_
  refine b_iload_n hO dX11_putByAct_33 1 rfl rfl ?_
  refine b_callVI hO mdX11_hourAt mvX11_hourAt w944 (ci := 11) rfl rfl (by decide) kLX_0 (As := [.int _]) (st := []) (ctX11_hourAt n0 hO.2.2.2.2.2.2.1 _ _) (Nat.le_of_ble_eq_true rfl) rfl rfl (Nat.le_of_ble_eq_true rfl) dX11_putByAct_34 (fun z34 => ?_)
  exact b_iret hO dX11_putByAct_37
theorem ctX11_putByAct (n0 : Nat) (hI : Inj LX ad) (x1 : Int32) (x2 : Int32) (M : Mem) : CT l LX D cy ad yX11_putByAct cX11_putByAct 3 (some .int) 7 (QI LX D cy ad) [.ref (ad 0), .int x1, .int x2] M (fX11_putByAct n0 x1 x2 M) :=
  CT.mk LXok hI (by decide) (Nat.le_of_ble_eq_true rfl) (fun hO => tfX11_putByAct n0 hO x1 x2 M)
/-! X11_give -/
def fX11_give_22 (n0 : Nat) (M : Mem) : Option (Int32 × Mem) :=
  (fX11_refuse n0 (3 : Int32) M).bind fun z24 =>
  some (z24.1, z24.2)
def fX11_give (n0 : Nat) (x1 : Int32) (x2 : Int32) (M : Mem) : Option (Int32 × Mem) :=
  (fX9_isCorner n0 (gR M 1) x1 M).bind fun z5 =>
  if z5.1 = 0 then
    fX11_give_22 n0 z5.2
  else
    (fX9_isThing n0 (gR z5.2 1) x2 z5.2).bind fun z16 =>
    if z16.1 = 0 then
      fX11_give_22 n0 z16.2
    else
      (fX11_putByAct n0 x1 x2 z16.2).bind fun z31 =>
      some (z31.1, z31.2)
theorem tfX11_give_22 (n0 : Nat) (hO : OKc p (rmL 8) s m args meth c LX D cy ad cX11_give RX11 3 8 (some .int)) (M : Mem) : BL p l e (rmL 8) s m args below meth c LX D cy ad 3 (QI LX D cy ad) 22 [(0, .ref (ad 0))] [] M (fX11_give_22 n0 M) := by
  unfold fX11_give_22
  refine b_aload_n hO dX11_give_22 0 rfl rfl ?_
  refine b_iconst hO dX11_give_23 ic_i_3 ?_
  refine b_callVI hO mdX11_refuse mvX11_refuse w671 (ci := 11) rfl rfl (by decide) kLX_0 (As := [.int _]) (st := []) (ctX11_refuse n0 hO.2.2.2.2.2.2.1 _ _) (Nat.le_of_ble_eq_true rfl) rfl rfl (Nat.le_of_ble_eq_true rfl) dX11_give_24 (fun z24 => ?_)
  exact b_iret hO dX11_give_27
theorem tfX11_give (n0 : Nat) (hO : OKc p (rmL 8) s m args meth c LX D cy ad cX11_give RX11 3 8 (some .int)) (x1 : Int32) (x2 : Int32) (M : Mem) : BL p l e (rmL 8) s m args below meth c LX D cy ad 3 (QI LX D cy ad) 0 [(0, .ref (ad 0)), (1, .int x1), (2, .int x2)] [] M (fX11_give n0 x1 x2 M) := by
  unfold fX11_give
  refine b_aload_n hO dX11_give_0 0 rfl rfl ?_
  refine b_getR hO flX11_19 kLX_0 (id := 1) rfl rfl (rk := 9) rfl (by decide) dX11_give_1 (fun hg1 => ?_)
  refine b_iload_n hO dX11_give_4 1 rfl rfl ?_
  refine b_callVI hO mdX9_isCorner mvX9_isCorner w928 (ci := 9) rfl rfl (by decide) hg1 (As := [.int _]) (st := []) (ctX9_isCorner n0 _ hg1 hO.2.2.2.2.2.2.1 _ _) (Nat.le_of_ble_eq_true rfl) rfl rfl (Nat.le_of_ble_eq_true rfl) dX11_give_5 (fun z5 => ?_)
  refine b_if_eq hO dX11_give_8 (tgt := 22) (by decide) ?_ ?_
  · refine b_sub [0] rfl ?_
    exact tfX11_give_22 n0 hO _
  · refine b_aload_n hO dX11_give_11 0 rfl rfl ?_
    refine b_getR hO flX11_19 kLX_0 (id := 1) rfl rfl (rk := 9) rfl (by decide) dX11_give_12 (fun hg2 => ?_)
    refine b_iload_n hO dX11_give_15 2 rfl rfl ?_
    refine b_callVI hO mdX9_isThing mvX9_isThing w924 (ci := 9) rfl rfl (by decide) hg2 (As := [.int _]) (st := []) (ctX9_isThing n0 _ hg2 hO.2.2.2.2.2.2.1 _ _) (Nat.le_of_ble_eq_true rfl) rfl rfl (Nat.le_of_ble_eq_true rfl) dX11_give_16 (fun z16 => ?_)
    refine b_if_ne hO dX11_give_19 (tgt := 28) (by decide) ?_ ?_
    · refine b_aload_n hO dX11_give_28 0 rfl rfl ?_
      refine b_iload_n hO dX11_give_29 1 rfl rfl ?_
      refine b_iload_n hO dX11_give_30 2 rfl rfl ?_
      refine b_callVI hO mdX11_putByAct mvX11_putByAct w1166 (ci := 11) rfl rfl (by decide) kLX_0 (As := [.int _, .int _]) (st := []) (ctX11_putByAct n0 hO.2.2.2.2.2.2.1 _ _ _) (Nat.le_of_ble_eq_true rfl) rfl rfl (Nat.le_of_ble_eq_true rfl) dX11_give_31 (fun z31 => ?_)
      exact b_iret hO dX11_give_34
    · refine b_sub [0] rfl ?_
      exact tfX11_give_22 n0 hO _
theorem ctX11_give (n0 : Nat) (hI : Inj LX ad) (x1 : Int32) (x2 : Int32) (M : Mem) : CT l LX D cy ad yX11_give cX11_give 3 (some .int) 8 (QI LX D cy ad) [.ref (ad 0), .int x1, .int x2] M (fX11_give n0 x1 x2 M) :=
  CT.mk LXok hI (by decide) (Nat.le_of_ble_eq_true rfl) (fun hO => tfX11_give n0 hO x1 x2 M)
/-! X11_take -/
def fX11_take_24 (n0 : Nat) (M : Mem) : Option (Int32 × Mem) :=
  (fX11_refuse n0 (3 : Int32) M).bind fun z26 =>
  some (z26.1, z26.2)
def fX11_take (n0 : Nat) (x1 : Int32) (M : Mem) : Option (Int32 × Mem) :=
  (fX9_isCorner n0 (gR M 1) x1 M).bind fun z5 =>
  if z5.1 = 0 then
    fX11_take_24 n0 z5.2
  else
    if oob x1 5 then none else
    if (gA z5.2 11 (Int32.toNatClampNeg x1)) = (-1 : Int32) then
      fX11_take_24 n0 z5.2
    else
      (fX11_putByAct n0 x1 (-1 : Int32) z5.2).bind fun z33 =>
      some (z33.1, z33.2)
theorem tfX11_take_24 (n0 : Nat) (hO : OKc p (rmL 8) s m args meth c LX D cy ad cX11_take RX11 2 8 (some .int)) (M : Mem) : BL p l e (rmL 8) s m args below meth c LX D cy ad 2 (QI LX D cy ad) 24 [(0, .ref (ad 0))] [] M (fX11_take_24 n0 M) := by
  unfold fX11_take_24
  refine b_aload_n hO dX11_take_24 0 rfl rfl ?_
  refine b_iconst hO dX11_take_25 ic_i_3 ?_
  refine b_callVI hO mdX11_refuse mvX11_refuse w671 (ci := 11) rfl rfl (by decide) kLX_0 (As := [.int _]) (st := []) (ctX11_refuse n0 hO.2.2.2.2.2.2.1 _ _) (Nat.le_of_ble_eq_true rfl) rfl rfl (Nat.le_of_ble_eq_true rfl) dX11_take_26 (fun z26 => ?_)
  exact b_iret hO dX11_take_29
theorem tfX11_take (n0 : Nat) (hO : OKc p (rmL 8) s m args meth c LX D cy ad cX11_take RX11 2 8 (some .int)) (x1 : Int32) (M : Mem) : BL p l e (rmL 8) s m args below meth c LX D cy ad 2 (QI LX D cy ad) 0 [(0, .ref (ad 0)), (1, .int x1)] [] M (fX11_take n0 x1 M) := by
  unfold fX11_take
  refine b_aload_n hO dX11_take_0 0 rfl rfl ?_
  refine b_getR hO flX11_19 kLX_0 (id := 1) rfl rfl (rk := 9) rfl (by decide) dX11_take_1 (fun hg1 => ?_)
  refine b_iload_n hO dX11_take_4 1 rfl rfl ?_
  refine b_callVI hO mdX9_isCorner mvX9_isCorner w928 (ci := 9) rfl rfl (by decide) hg1 (As := [.int _]) (st := []) (ctX9_isCorner n0 _ hg1 hO.2.2.2.2.2.2.1 _ _) (Nat.le_of_ble_eq_true rfl) rfl rfl (Nat.le_of_ble_eq_true rfl) dX11_take_5 (fun z5 => ?_)
  refine b_if_eq hO dX11_take_8 (tgt := 24) (by decide) ?_ ?_
  · refine b_sub [0] rfl ?_
    exact tfX11_take_24 n0 hO _
  · refine b_aload_n hO dX11_take_11 0 rfl rfl ?_
    refine b_get hO flX11_47 kLX_0 (v := .ref (ad 10)) rfl dX11_take_12 ?_
    refine b_get hO flX11_193 kLX_10 (v := .ref (ad 11)) rfl dX11_take_15 ?_
    refine b_iload_n hO dX11_take_18 1 rfl rfl ?_
    refine b_iald hO kLX_11 (n := 5) rfl dX11_take_19 ?_
    refine b_iconst hO dX11_take_20 ic_i_m1 ?_
    refine b_icmp_ne hO dX11_take_21 (tgt := 30) (by decide) ?_ ?_
    · refine b_aload_n hO dX11_take_30 0 rfl rfl ?_
      refine b_iload_n hO dX11_take_31 1 rfl rfl ?_
      refine b_iconst hO dX11_take_32 ic_i_m1 ?_
      refine b_callVI hO mdX11_putByAct mvX11_putByAct w1166 (ci := 11) rfl rfl (by decide) kLX_0 (As := [.int _, .int _]) (st := []) (ctX11_putByAct n0 hO.2.2.2.2.2.2.1 _ _ _) (Nat.le_of_ble_eq_true rfl) rfl rfl (Nat.le_of_ble_eq_true rfl) dX11_take_33 (fun z33 => ?_)
      exact b_iret hO dX11_take_36
    · refine b_sub [0] rfl ?_
      exact tfX11_take_24 n0 hO _
theorem ctX11_take (n0 : Nat) (hI : Inj LX ad) (x1 : Int32) (M : Mem) : CT l LX D cy ad yX11_take cX11_take 2 (some .int) 8 (QI LX D cy ad) [.ref (ad 0), .int x1] M (fX11_take n0 x1 M) :=
  CT.mk LXok hI (by decide) (Nat.le_of_ble_eq_true rfl) (fun hO => tfX11_take n0 hO x1 M)
/-! X11_undo -/
def fX11_undo (n0 : Nat) (M : Mem) : Option (Int32 × Mem) :=
  (fX2_bringBack n0 M).bind fun z8 =>
  if z8.1 = 0 then
    (fX11_refuse n0 (4 : Int32) z8.2).bind fun z16 =>
    some ((0 : Int32), z16.2)
  else
    some ((1 : Int32), z8.2)
theorem tfX11_undo (n0 : Nat) (hO : OKc p (rmL 3) s m args meth c LX D cy ad cX11_undo RX11 1 3 (some .boolean)) (M : Mem) : BL p l e (rmL 3) s m args below meth c LX D cy ad 1 (QI LX D cy ad) 0 [(0, .ref (ad 0))] [] M (fX11_undo n0 M) := by
  unfold fX11_undo
  refine b_aload_n hO dX11_undo_0 0 rfl rfl ?_
  refine b_get hO flX11_54 kLX_0 (v := .ref (ad 16)) rfl dX11_undo_1 ?_
  refine b_aload_n hO dX11_undo_4 0 rfl rfl ?_
  refine b_get hO flX11_47 kLX_0 (v := .ref (ad 10)) rfl dX11_undo_5 ?_
  refine b_callVI hO mdX2_bringBack mvX2_bringBack w1178 (ci := 2) rfl rfl (by decide) kLX_16 (As := [.ref _]) (st := []) (ctX2_bringBack n0 hO.2.2.2.2.2.2.1 _) (Nat.le_of_ble_eq_true rfl) rfl rfl (Nat.le_of_ble_eq_true rfl) dX11_undo_8 (fun z8 => ?_)
  refine b_if_ne hO dX11_undo_11 (tgt := 22) (by decide) ?_ ?_
  · refine b_iconst hO dX11_undo_22 ic_i_1 ?_
    exact b_zretc hO (Or.inr rfl) dX11_undo_23
  · refine b_aload_n hO dX11_undo_14 0 rfl rfl ?_
    refine b_iconst hO dX11_undo_15 ic_i_4 ?_
    refine b_callVI hO mdX11_refuse mvX11_refuse w671 (ci := 11) rfl rfl (by decide) kLX_0 (As := [.int _]) (st := []) (ctX11_refuse n0 hO.2.2.2.2.2.2.1 _ _) (Nat.le_of_ble_eq_true rfl) rfl rfl (Nat.le_of_ble_eq_true rfl) dX11_undo_16 (fun z16 => ?_)
    refine b_pop hO dX11_undo_19 rfl ?_
    refine b_iconst hO dX11_undo_20 ic_i_0 ?_
    exact b_zretc hO (Or.inl rfl) dX11_undo_21
theorem ctX11_undo (n0 : Nat) (hI : Inj LX ad) (M : Mem) : CT l LX D cy ad yX11_undo cX11_undo 1 (some .boolean) 3 (QI LX D cy ad) [.ref (ad 0)] M (fX11_undo n0 M) :=
  CT.mk LXok hI (by decide) (Nat.le_of_ble_eq_true rfl) (fun hO => tfX11_undo n0 hO M)
/-! X11_seed -/
def fX11_seed (n0 : Nat) (x1 : Int32) (M : Mem) : Option (Int32 × Mem) :=
  if 0 ≤ x1 then
    bnd (sI M 17 x1) fun M14 =>
    some ((1 : Int32), M14)
  else
    (fX11_refuse n0 (5 : Int32) M).bind fun z6 =>
    some ((0 : Int32), z6.2)
theorem tfX11_seed (n0 : Nat) (hO : OKc p (rmL 2) s m args meth c LX D cy ad cX11_seed RX11 2 2 (some .boolean)) (x1 : Int32) (M : Mem) : BL p l e (rmL 2) s m args below meth c LX D cy ad 2 (QI LX D cy ad) 0 [(0, .ref (ad 0)), (1, .int x1)] [] M (fX11_seed n0 x1 M) := by
  unfold fX11_seed
  refine b_iload_n hO dX11_seed_0 1 rfl rfl ?_
  refine b_if_ge hO dX11_seed_1 (tgt := 12) (by decide) ?_ ?_
  · refine b_aload_n hO dX11_seed_12 0 rfl rfl ?_
    refine b_iload_n hO dX11_seed_13 1 rfl rfl ?_
    refine b_putI hO flX11_98 kLX_0 rfl rfl rfl (id := 17) rfl dX11_seed_14 ?_
    refine b_bnd (fun M14 => ?_)
    refine b_iconst hO dX11_seed_17 ic_i_1 ?_
    exact b_zretc hO (Or.inr rfl) dX11_seed_18
  · refine b_aload_n hO dX11_seed_4 0 rfl rfl ?_
    refine b_iconst hO dX11_seed_5 ic_i_5 ?_
    refine b_callVI hO mdX11_refuse mvX11_refuse w671 (ci := 11) rfl rfl (by decide) kLX_0 (As := [.int _]) (st := []) (ctX11_refuse n0 hO.2.2.2.2.2.2.1 _ _) (Nat.le_of_ble_eq_true rfl) rfl rfl (Nat.le_of_ble_eq_true rfl) dX11_seed_6 (fun z6 => ?_)
    refine b_pop hO dX11_seed_9 rfl ?_
    refine b_iconst hO dX11_seed_10 ic_i_0 ?_
    exact b_zretc hO (Or.inl rfl) dX11_seed_11
theorem ctX11_seed (n0 : Nat) (hI : Inj LX ad) (x1 : Int32) (M : Mem) : CT l LX D cy ad yX11_seed cX11_seed 2 (some .boolean) 2 (QI LX D cy ad) [.ref (ad 0), .int x1] M (fX11_seed n0 x1 M) :=
  CT.mk LXok hI (by decide) (Nat.le_of_ble_eq_true rfl) (fun hO => tfX11_seed n0 hO x1 M)
/-! X11_kept -/
def fX11_kept (n0 : Nat) (x1 : Int32) (x2 : Int32) (M : Mem) : Option (Int32 × Mem) :=
  if x1 < 0 then
    some ((-1 : Int32), M)
  else
    if x1 < (gI M 1285) then
      if x2 = 0 then
        if oob x1 6 then none else
        some ((gA M 14 (Int32.toNatClampNeg x1)), M)
      else
      if x2 = 1 then
        if oob x1 6 then none else
        some ((gA M 15 (Int32.toNatClampNeg x1)), M)
      else
      some ((-1 : Int32), M)
    else
      some ((-1 : Int32), M)
theorem tfX11_kept (n0 : Nat) (hO : OKc p (rmL 1) s m args meth c LX D cy ad cX11_kept RX11 3 1 (some .int)) (x1 : Int32) (x2 : Int32) (M : Mem) : BL p l e (rmL 1) s m args below meth c LX D cy ad 3 (QI LX D cy ad) 0 [(0, .ref (ad 0)), (1, .int x1), (2, .int x2)] [] M (fX11_kept n0 x1 x2 M) := by
  unfold fX11_kept
  refine b_iload_n hO dX11_kept_0 1 rfl rfl ?_
  refine b_if_lt hO dX11_kept_1 (tgt := 15) (by decide) ?_ ?_
  · refine b_iconst hO dX11_kept_15 ic_i_m1 ?_
    exact b_iret hO dX11_kept_16
  · refine b_iload_n hO dX11_kept_4 1 rfl rfl ?_
    refine b_aload_n hO dX11_kept_5 0 rfl rfl ?_
    refine b_get hO flX11_47 kLX_0 (v := .ref (ad 10)) rfl dX11_kept_6 ?_
    refine b_get hO flX11_158 kLX_10 (v := .int (gI _ 1285)) rfl dX11_kept_9 ?_
    refine b_icmp_lt hO dX11_kept_12 (tgt := 17) (by decide) ?_ ?_
    · refine b_iload_n hO dX11_kept_17 2 rfl rfl ?_
      refine b_lookIn hO dX11_kept_18 (v := 0) (z := 0) (tgt := 44) (by decide) (by decide) rfl (by decide) ?_ (fun hn0 => ?_)
      · refine b_aload_n hO dX11_kept_44 0 rfl rfl ?_
        refine b_get hO flX11_47 kLX_0 (v := .ref (ad 10)) rfl dX11_kept_45 ?_
        refine b_get hO flX11_294 kLX_10 (v := .ref (ad 14)) rfl dX11_kept_48 ?_
        refine b_iload_n hO dX11_kept_51 1 rfl rfl ?_
        refine b_iald hO kLX_14 (n := 6) rfl dX11_kept_52 ?_
        exact b_iret hO dX11_kept_53
      refine b_lookIn hO dX11_kept_18 (v := 1) (z := 1) (tgt := 54) (by decide) (by decide) rfl (by decide) ?_ (fun hn1 => ?_)
      · refine b_aload_n hO dX11_kept_54 0 rfl rfl ?_
        refine b_get hO flX11_47 kLX_0 (v := .ref (ad 10)) rfl dX11_kept_55 ?_
        refine b_get hO flX11_297 kLX_10 (v := .ref (ad 15)) rfl dX11_kept_58 ?_
        refine b_iload_n hO dX11_kept_61 1 rfl rfl ?_
        refine b_iald hO kLX_15 (n := 6) rfl dX11_kept_62 ?_
        exact b_iret hO dX11_kept_63
      refine b_lookOut hO dX11_kept_18 (tgt := 64) (by decide) (by rw [lv_osw hn0 (by decide)]; rw [lv_osw hn1 (by decide)]; rfl) (by decide) ?_
      refine b_iconst hO dX11_kept_64 ic_i_m1 ?_
      exact b_iret hO dX11_kept_65
    · refine b_iconst hO dX11_kept_15 ic_i_m1 ?_
      exact b_iret hO dX11_kept_16
theorem ctX11_kept (n0 : Nat) (hI : Inj LX ad) (x1 : Int32) (x2 : Int32) (M : Mem) : CT l LX D cy ad yX11_kept cX11_kept 3 (some .int) 1 (QI LX D cy ad) [.ref (ad 0), .int x1, .int x2] M (fX11_kept n0 x1 x2 M) :=
  CT.mk LXok hI (by decide) (Nat.le_of_ble_eq_true rfl) (fun hO => tfX11_kept n0 hO x1 x2 M)
/-! X11_image -/
def fX11_image (n0 : Nat) (M : Mem) : Option (Int32 × Mem) :=
  (fX6_writeImage n0 29 M).bind fun z9 =>
  bnd (sI z9.2 14 z9.1) fun M12 =>
  some ((gI M12 14), M12)
theorem tfX11_image (n0 : Nat) (hO : OKc p (rmL 3) s m args meth c LX D cy ad cX11_image RX11 1 3 (some .int)) (M : Mem) : BL p l e (rmL 3) s m args below meth c LX D cy ad 1 (QI LX D cy ad) 0 [(0, .ref (ad 0))] [] M (fX11_image n0 M) := by
  unfold fX11_image
  refine b_aload_n hO dX11_image_0 0 rfl rfl ?_
  refine b_aload_n hO dX11_image_1 0 rfl rfl ?_
  refine b_get hO flX11_47 kLX_0 (v := .ref (ad 10)) rfl dX11_image_2 ?_
  refine b_aload_n hO dX11_image_5 0 rfl rfl ?_
  refine b_get hO flX11_82 kLX_0 (v := .ref (ad 29)) rfl dX11_image_6 ?_
  refine b_callVI hO mdX6_writeImage mvX6_writeImage w1198 (ci := 6) rfl rfl (by decide) kLX_10 (As := [.ref _]) (st := [.ref _]) (ctX6_writeImage n0 _ kLX_29 hO.2.2.2.2.2.2.1 _) (Nat.le_of_ble_eq_true rfl) rfl rfl (Nat.le_of_ble_eq_true rfl) dX11_image_9 (fun z9 => ?_)
  refine b_putI hO flX11_88 kLX_0 rfl rfl rfl (id := 14) rfl dX11_image_12 ?_
  refine b_bnd (fun M12 => ?_)
  refine b_aload_n hO dX11_image_15 0 rfl rfl ?_
  refine b_get hO flX11_88 kLX_0 (v := .int (gI _ 14)) rfl dX11_image_16 ?_
  exact b_iret hO dX11_image_19
theorem ctX11_image (n0 : Nat) (hI : Inj LX ad) (M : Mem) : CT l LX D cy ad yX11_image cX11_image 1 (some .int) 3 (QI LX D cy ad) [.ref (ad 0)] M (fX11_image n0 M) :=
  CT.mk LXok hI (by decide) (Nat.le_of_ble_eq_true rfl) (fun hO => tfX11_image n0 hO M)
/-! X11_octet -/
def fX11_octet (n0 : Nat) (x1 : Int32) (M : Mem) : Option (Int32 × Mem) :=
  if x1 < 0 then
    some ((-1 : Int32), M)
  else
    if (gI M 14) ≤ x1 then
      some ((-1 : Int32), M)
    else
      if oob x1 24 then none else
      some ((gA M 29 (Int32.toNatClampNeg x1)), M)
theorem tfX11_octet (n0 : Nat) (hO : OKc p (rmL 1) s m args meth c LX D cy ad cX11_octet RX11 2 1 (some .int)) (x1 : Int32) (M : Mem) : BL p l e (rmL 1) s m args below meth c LX D cy ad 2 (QI LX D cy ad) 0 [(0, .ref (ad 0)), (1, .int x1)] [] M (fX11_octet n0 x1 M) := by
  unfold fX11_octet
  refine b_iload_n hO dX11_octet_0 1 rfl rfl ?_
  refine b_if_lt hO dX11_octet_1 (tgt := 21) (by decide) ?_ ?_
  · refine b_iconst hO dX11_octet_21 ic_i_m1 ?_
    exact b_iret hO dX11_octet_22
  · refine b_iload_n hO dX11_octet_4 1 rfl rfl ?_
    refine b_aload_n hO dX11_octet_5 0 rfl rfl ?_
    refine b_get hO flX11_88 kLX_0 (v := .int (gI _ 14)) rfl dX11_octet_6 ?_
    refine b_icmp_ge hO dX11_octet_9 (tgt := 21) (by decide) ?_ ?_
    · refine b_iconst hO dX11_octet_21 ic_i_m1 ?_
      exact b_iret hO dX11_octet_22
    · refine b_aload_n hO dX11_octet_12 0 rfl rfl ?_
      refine b_get hO flX11_82 kLX_0 (v := .ref (ad 29)) rfl dX11_octet_13 ?_
      refine b_iload_n hO dX11_octet_16 1 rfl rfl ?_
      refine b_iald hO kLX_29 (n := 24) rfl dX11_octet_17 ?_
      refine b_goto hO dX11_octet_18 (tgt := 22) (by decide) ?_
      exact b_iret hO dX11_octet_22
theorem ctX11_octet (n0 : Nat) (hI : Inj LX ad) (x1 : Int32) (M : Mem) : CT l LX D cy ad yX11_octet cX11_octet 2 (some .int) 1 (QI LX D cy ad) [.ref (ad 0), .int x1] M (fX11_octet n0 x1 M) :=
  CT.mk LXok hI (by decide) (Nat.le_of_ble_eq_true rfl) (fun hO => tfX11_octet n0 hO x1 M)
/-! X11_on -/
def fX11_on_44 (n0 : Nat) (x1 : Int32) (M : Mem) : Option (Int32 × Mem) :=
  bnd (sI M 641 (0 : Int32)) fun M49 =>
  if x1 = 0 ∨ x1 = 1 then some (x1, M49) else none
def fX11_on (n0 : Nat) (M : Mem) : Option (Int32 × Mem) :=
  (fX6_isImage n0 M).bind fun z8 =>
  if z8.1 = 0 then
    (fX11_refuse n0 (5 : Int32) z8.2).bind fun z40 =>
    fX11_on_44 n0 z8.1 z40.2
  else
    (fX6_readImage n0 z8.2).bind fun z24 =>
    fX11_on_44 n0 z8.1 (sI z24 2050 (0 : Int32))
theorem tfX11_on_44 (n0 : Nat) (hO : OKc p (rmL 4) s m args meth c LX D cy ad cX11_on RX11 2 4 (some .boolean)) (x1 : Int32) (M : Mem) : BL p l e (rmL 4) s m args below meth c LX D cy ad 2 (QI LX D cy ad) 44 [(0, .ref (ad 0)), (1, .int x1)] [] M (fX11_on_44 n0 x1 M) := by
  unfold fX11_on_44
  refine b_aload_n hO dX11_on_44 0 rfl rfl ?_
  refine b_get hO flX11_12 kLX_0 (v := .ref (ad 5)) rfl dX11_on_45 ?_
  refine b_iconst hO dX11_on_48 ic_i_0 ?_
  refine b_putI hO flX11_116 kLX_5 rfl rfl rfl (id := 641) rfl dX11_on_49 ?_
  refine b_bnd (fun M49 => ?_)
  refine b_iload_n hO dX11_on_52 1 rfl rfl ?_
  exact b_zret hO dX11_on_53
theorem tfX11_on (n0 : Nat) (hO : OKc p (rmL 4) s m args meth c LX D cy ad cX11_on RX11 2 4 (some .boolean)) (M : Mem) : BL p l e (rmL 4) s m args below meth c LX D cy ad 2 (QI LX D cy ad) 0 [(0, .ref (ad 0))] [] M (fX11_on n0 M) := by
  unfold fX11_on
  refine b_aload_n hO dX11_on_0 0 rfl rfl ?_
  refine b_get hO flX11_47 kLX_0 (v := .ref (ad 10)) rfl dX11_on_1 ?_
  refine b_aload_n hO dX11_on_4 0 rfl rfl ?_
  refine b_get hO flX11_12 kLX_0 (v := .ref (ad 5)) rfl dX11_on_5 ?_
  refine b_callVI hO mdX6_isImage mvX6_isImage w1217 (ci := 6) rfl rfl (by decide) kLX_10 (As := [.ref _]) (st := []) (ctX6_isImage n0 hO.2.2.2.2.2.2.1 _) (Nat.le_of_ble_eq_true rfl) rfl rfl (Nat.le_of_ble_eq_true rfl) dX11_on_8 (fun z8 => ?_)
  refine b_istore_n hO dX11_on_11 rfl (by decide) (lv' := [(1, .int _), (0, .ref _)]) rfl ?_
  refine b_iload_n hO dX11_on_12 0 rfl rfl ?_
  refine b_if_eq hO dX11_on_13 (tgt := 38) (by decide) ?_ ?_
  · refine b_aload_n hO dX11_on_38 1 rfl rfl ?_
    refine b_iconst hO dX11_on_39 ic_i_5 ?_
    refine b_callVI hO mdX11_refuse mvX11_refuse w671 (ci := 11) rfl rfl (by decide) kLX_0 (As := [.int _]) (st := []) (ctX11_refuse n0 hO.2.2.2.2.2.2.1 _ _) (Nat.le_of_ble_eq_true rfl) rfl rfl (Nat.le_of_ble_eq_true rfl) dX11_on_40 (fun z40 => ?_)
    refine b_pop hO dX11_on_43 rfl ?_
    refine b_sub [1, 0] rfl ?_
    exact tfX11_on_44 n0 hO _ _
  · refine b_aload_n hO dX11_on_16 1 rfl rfl ?_
    refine b_get hO flX11_47 kLX_0 (v := .ref (ad 10)) rfl dX11_on_17 ?_
    refine b_aload_n hO dX11_on_20 1 rfl rfl ?_
    refine b_get hO flX11_12 kLX_0 (v := .ref (ad 5)) rfl dX11_on_21 ?_
    refine b_callVV hO mdX6_readImage mvX6_readImage w1228 (ci := 6) rfl rfl (by decide) kLX_10 (As := [.ref _]) (st := []) (ctX6_readImage n0 hO.2.2.2.2.2.2.1 _) (Nat.le_of_ble_eq_true rfl) rfl rfl (Nat.le_of_ble_eq_true rfl) dX11_on_24 (fun z24 => ?_)
    refine b_aload_n hO dX11_on_27 1 rfl rfl ?_
    refine b_get hO flX11_54 kLX_0 (v := .ref (ad 16)) rfl dX11_on_28 ?_
    refine b_iconst hO dX11_on_31 ic_i_0 ?_
    refine b_putI hO flX11_164 kLX_16 rfl rfl rfl (id := 2050) rfl dX11_on_32 ?_
    refine b_goto hO dX11_on_35 (tgt := 44) (by decide) ?_
    refine b_sub [1, 0] rfl ?_
    exact tfX11_on_44 n0 hO _ _
theorem ctX11_on (n0 : Nat) (hI : Inj LX ad) (M : Mem) : CT l LX D cy ad yX11_on cX11_on 2 (some .boolean) 4 (QI LX D cy ad) [.ref (ad 0)] M (fX11_on n0 M) :=
  CT.mk LXok hI (by decide) (Nat.le_of_ble_eq_true rfl) (fun hO => tfX11_on n0 hO M)
/-! X11_status -/
def fX11_status (n0 : Nat) (x1 : Int32) (M : Mem) : Option (Int32 × Mem) :=
  if x1 < 0 then
    some ((-1 : Int32), M)
  else
    if (6 : Int32) ≤ x1 then
      some ((-1 : Int32), M)
    else
      if oob x1 6 then none else
      some ((gA M 30 (Int32.toNatClampNeg x1)), M)
theorem tfX11_status (n0 : Nat) (hO : OKc p (rmL 1) s m args meth c LX D cy ad cX11_status RX11 2 1 (some .int)) (x1 : Int32) (M : Mem) : BL p l e (rmL 1) s m args below meth c LX D cy ad 2 (QI LX D cy ad) 0 [(0, .ref (ad 0)), (1, .int x1)] [] M (fX11_status n0 x1 M) := by
  unfold fX11_status
  refine b_iload_n hO dX11_status_0 1 rfl rfl ?_
  refine b_if_lt hO dX11_status_1 (tgt := 19) (by decide) ?_ ?_
  · refine b_iconst hO dX11_status_19 ic_i_m1 ?_
    exact b_iret hO dX11_status_20
  · refine b_iload_n hO dX11_status_4 1 rfl rfl ?_
    refine b_bipush hO dX11_status_5 ic_b_6 ?_
    refine b_icmp_ge hO dX11_status_7 (tgt := 19) (by decide) ?_ ?_
    · refine b_iconst hO dX11_status_19 ic_i_m1 ?_
      exact b_iret hO dX11_status_20
    · refine b_aload_n hO dX11_status_10 0 rfl rfl ?_
      refine b_get hO flX11_85 kLX_0 (v := .ref (ad 30)) rfl dX11_status_11 ?_
      refine b_iload_n hO dX11_status_14 1 rfl rfl ?_
      refine b_iald hO kLX_30 (n := 6) rfl dX11_status_15 ?_
      refine b_goto hO dX11_status_16 (tgt := 20) (by decide) ?_
      exact b_iret hO dX11_status_20
theorem ctX11_status (n0 : Nat) (hI : Inj LX ad) (x1 : Int32) (M : Mem) : CT l LX D cy ad yX11_status cX11_status 2 (some .int) 1 (QI LX D cy ad) [.ref (ad 0), .int x1] M (fX11_status n0 x1 M) :=
  CT.mk LXok hI (by decide) (Nat.le_of_ble_eq_true rfl) (fun hO => tfX11_status n0 hO x1 M)
end
end
section
section
variable {p : Program} {l : Launch} {e : Env} {s : State} {m : MethodId} {args : Array Value} {below : List Frame} {meth : Method} {c : Code} {D : va_G} {cy : Nat → ClassId} {ad : Nat → Nat} {dd : Nat}

/-! X12_is -/
def fX12_is (n0 : Nat) (x0 : Int32) (x1 : Int32) (x2 : Int32) (M : Mem) : Option (Int32 × Mem) :=
  if x0 < x1 then
    some ((0 : Int32), M)
  else
    if x2 < x0 then
      some ((0 : Int32), M)
    else
      some ((1 : Int32), M)
theorem tfX12_is (n0 : Nat) (hO : OKc p (rmL 1) s m args meth c LY D cy ad cX12_is RX12 3 1 (some .boolean)) (x0 : Int32) (x1 : Int32) (x2 : Int32) (M : Mem) : BL p l e (rmL 1) s m args below meth c LY D cy ad 3 (QI LY D cy ad) 0 [(0, .int x0), (1, .int x1), (2, .int x2)] [] M (fX12_is n0 x0 x1 x2 M) := by
  unfold fX12_is
  refine b_iload_n hO dX12_is_0 0 rfl rfl ?_
  refine b_iload_n hO dX12_is_1 1 rfl rfl ?_
  refine b_icmp_lt hO dX12_is_2 (tgt := 14) (by decide) ?_ ?_
  · refine b_iconst hO dX12_is_14 ic_i_0 ?_
    exact b_zretc hO (Or.inl rfl) dX12_is_15
  · refine b_iload_n hO dX12_is_5 0 rfl rfl ?_
    refine b_iload_n hO dX12_is_6 2 rfl rfl ?_
    refine b_icmp_gt hO dX12_is_7 (tgt := 14) (by decide) ?_ ?_
    · refine b_iconst hO dX12_is_14 ic_i_0 ?_
      exact b_zretc hO (Or.inl rfl) dX12_is_15
    · refine b_iconst hO dX12_is_10 ic_i_1 ?_
      refine b_goto hO dX12_is_11 (tgt := 15) (by decide) ?_
      exact b_zretc hO (Or.inr rfl) dX12_is_15
theorem ctX12_is (n0 : Nat) (hI : Inj LY ad) (x0 : Int32) (x1 : Int32) (x2 : Int32) (M : Mem) : CT l LY D cy ad yX12_is cX12_is 3 (some .boolean) 1 (QI LY D cy ad) [.int x0, .int x1, .int x2] M (fX12_is n0 x0 x1 x2 M) :=
  CT.mk LYok hI (by decide) (Nat.le_of_ble_eq_true rfl) (fun hO => tfX12_is n0 hO x0 x1 x2 M)
/-! X12_put -/
def bX12_put_3 (n0 : Nat) (k3 : Int32 → Int32 → Mem → Option (Mem)) (x1 : Int32) (x2 : Int32) (M : Mem) : Option (Mem) :=
  if x2 < 0 then
    some M
  else
    if oob (gI M 1) 1800 then none else
    bnd (sA M 1 (Int32.toNatClampNeg (gI M 1)) ((x1 >>> (x2 &&& 31)) &&& (255 : Int32))) fun M22 =>
    bnd (sI M22 1 ((gI M22 1) + (1 : Int32))) fun M30 =>
    k3 x1 (x2 + (-8 : Int32)) M30
def fX12_put_3 (n0 : Nat) : Int32 → Int32 → Mem → Option (Mem) := loopN (bX12_put_3 n0) (fun _ _ _ => none) n0
def fX12_put (n0 : Nat) (x1 : Int32) (M : Mem) : Option (Mem) :=
  fX12_put_3 n0 x1 (24 : Int32) M
theorem tbX12_put_3 (n0 : Nat) (hO : OKc p (rmL 1) s m args meth c LY D cy ad cX12_put RX12 3 1 none) (k3 : Int32 → Int32 → Mem → Option (Mem)) (hk3 : ∀ (x1 : Int32) (x2 : Int32) (M : Mem), BL p l e (rmL 1) s m args below meth c LY D cy ad 3 (QV LY D cy ad) 3 [(0, .ref (ad 0)), (1, .int x1), (2, .int x2)] [] M (k3 x1 x2 M)) (x1 : Int32) (x2 : Int32) (M : Mem) : BL p l e (rmL 1) s m args below meth c LY D cy ad 3 (QV LY D cy ad) 3 [(0, .ref (ad 0)), (1, .int x1), (2, .int x2)] [] M (bX12_put_3 n0 k3 x1 x2 M) := by
  unfold bX12_put_3
  refine b_iload_n hO dX12_put_3 2 rfl rfl ?_
  refine b_if_lt hO dX12_put_4 (tgt := 39) (by decide) ?_ ?_
  · exact b_vret hO dX12_put_39
  · refine b_aload_n hO dX12_put_7 0 rfl rfl ?_
    refine b_get hO flX12_7 kLY_0 (v := .ref (ad 1)) rfl dX12_put_8 ?_
    refine b_aload_n hO dX12_put_11 0 rfl rfl ?_
    refine b_get hO flX12_13 kLY_0 (v := .int (gI _ 1)) rfl dX12_put_12 ?_
    refine b_iload_n hO dX12_put_15 1 rfl rfl ?_
    refine b_iload_n hO dX12_put_16 2 rfl rfl ?_
    refine b_ishr hO dX12_put_17 ?_
    refine b_sipush hO dX12_put_18 ic_s_255 ?_
    refine b_iand hO dX12_put_21 ?_
    refine b_iast hO kLY_1 (n := 1800) rfl dX12_put_22 ?_
    refine b_bnd (fun M22 => ?_)
    refine b_aload_n hO dX12_put_23 0 rfl rfl ?_
    refine b_dup hO dX12_put_24 rfl ?_
    refine b_get hO flX12_13 kLY_0 (v := .int (gI _ 1)) rfl dX12_put_25 ?_
    refine b_iconst hO dX12_put_28 ic_i_1 ?_
    refine b_iadd hO dX12_put_29 ?_
    refine b_putI hO flX12_13 kLY_0 rfl rfl rfl (id := 1) rfl dX12_put_30 ?_
    refine b_bnd (fun M30 => ?_)
    refine b_iinc hO dX12_put_33 2 rfl ic_i_m8 (by decide) (lv' := [(2, .int _), (0, .ref _), (1, .int _)]) rfl ?_
    refine b_goto hO dX12_put_36 (tgt := 3) (by decide) ?_
    refine b_sub [1, 2, 0] rfl ?_
    exact hk3 _ _ _
theorem lX12_put_3 (n0 : Nat) (hO : OKc p (rmL 1) s m args meth c LY D cy ad cX12_put RX12 3 1 none) : ∀ (w : Nat) (x1 : Int32) (x2 : Int32) (M : Mem), BL p l e (rmL 1) s m args below meth c LY D cy ad 3 (QV LY D cy ad) 3 [(0, .ref (ad 0)), (1, .int x1), (2, .int x2)] [] M (loopN (bX12_put_3 n0) (fun _ _ _ => none) w x1 x2 M) := by
  intro w
  induction w with
  | zero =>
    intros
    exact b_none
  | succ w ih =>
    intro x1 x2 M
    exact tbX12_put_3 n0 hO _ ih x1 x2 M
theorem tfX12_put_3 (n0 : Nat) (hO : OKc p (rmL 1) s m args meth c LY D cy ad cX12_put RX12 3 1 none) (x1 : Int32) (x2 : Int32) (M : Mem) : BL p l e (rmL 1) s m args below meth c LY D cy ad 3 (QV LY D cy ad) 3 [(0, .ref (ad 0)), (1, .int x1), (2, .int x2)] [] M (fX12_put_3 n0 x1 x2 M) := lX12_put_3 n0 hO n0 x1 x2 M
theorem tfX12_put (n0 : Nat) (hO : OKc p (rmL 1) s m args meth c LY D cy ad cX12_put RX12 3 1 none) (x1 : Int32) (M : Mem) : BL p l e (rmL 1) s m args below meth c LY D cy ad 3 (QV LY D cy ad) 0 [(0, .ref (ad 0)), (1, .int x1)] [] M (fX12_put n0 x1 M) := by
  unfold fX12_put
  refine b_bipush hO dX12_put_0 ic_b_24 ?_
  refine b_istore_n hO dX12_put_2 rfl (by decide) (lv' := [(2, .int _), (0, .ref _), (1, .int _)]) rfl ?_
  refine b_sub [1, 2, 0] rfl ?_
  exact tfX12_put_3 n0 hO _ _ _
theorem ctX12_put (n0 : Nat) (hI : Inj LY ad) (x1 : Int32) (M : Mem) : CT l LY D cy ad yX12_put cX12_put 3 none 1 (QV LY D cy ad) [.ref (ad 0), .int x1] M (fX12_put n0 x1 M) :=
  CT.mk LYok hI (by decide) (Nat.le_of_ble_eq_true rfl) (fun hO => tfX12_put n0 hO x1 M)
/-! X12_refuses -/
def fX12_refuses (n0 : Nat) (x1 : Int32) (M : Mem) : Option (Int32 × Mem) :=
  if oob x1 6 then none else
  if oob x1 6 then none else
  bnd (sA M 27 (Int32.toNatClampNeg x1) ((gA M 27 (Int32.toNatClampNeg x1)) + (1 : Int32))) fun M9 =>
  some ((-1 : Int32), M9)
theorem tfX12_refuses (n0 : Nat) (hO : OKc p (rmL 1) s m args meth c LY D cy ad cX12_refuses RX12 2 1 (some .int)) (x1 : Int32) (M : Mem) : BL p l e (rmL 1) s m args below meth c LY D cy ad 2 (QI LY D cy ad) 0 [(0, .ref (ad 0)), (1, .int x1)] [] M (fX12_refuses n0 x1 M) := by
  unfold fX12_refuses
  refine b_aload_n hO dX12_refuses_0 0 rfl rfl ?_
  refine b_get hO flX12_153 kLY_0 (v := .ref (ad 27)) rfl dX12_refuses_1 ?_
  refine b_iload_n hO dX12_refuses_4 1 rfl rfl ?_
  refine b_dup2 hO dX12_refuses_5 rfl rfl ?_
  refine b_iald hO kLY_27 (n := 6) rfl dX12_refuses_6 ?_
  refine b_iconst hO dX12_refuses_7 ic_i_1 ?_
  refine b_iadd hO dX12_refuses_8 ?_
  refine b_iast hO kLY_27 (n := 6) rfl dX12_refuses_9 ?_
  refine b_bnd (fun M9 => ?_)
  refine b_iconst hO dX12_refuses_10 ic_i_m1 ?_
  exact b_iret hO dX12_refuses_11
theorem ctX12_refuses (n0 : Nat) (hI : Inj LY ad) (x1 : Int32) (M : Mem) : CT l LY D cy ad yX12_refuses cX12_refuses 2 (some .int) 1 (QI LY D cy ad) [.ref (ad 0), .int x1] M (fX12_refuses n0 x1 M) :=
  CT.mk LYok hI (by decide) (Nat.le_of_ble_eq_true rfl) (fun hO => tfX12_refuses n0 hO x1 M)
/-! X12_feed -/
def fX12_feed (n0 : Nat) (x1 : Int32) (x2 : Int32) (x3 : Int32) (x4 : Int32) (x5 : Int32) (M : Mem) : Option (Int32 × Mem) :=
  if ((gI M 1) + (20 : Int32)) ≤ (1600 : Int32) then
    (fX12_put n0 x1 M).bind fun z21 =>
    (fX12_put n0 x2 z21).bind fun z26 =>
    (fX12_put n0 x3 z26).bind fun z31 =>
    (fX12_put n0 x4 z31).bind fun z37 =>
    (fX12_put n0 x5 z37).bind fun z43 =>
    some ((gI z43 1), z43)
  else
    (fX12_refuses n0 (0 : Int32) M).bind fun z15 =>
    some (z15.1, z15.2)
theorem tfX12_feed (n0 : Nat) (hO : OKc p (rmL 2) s m args meth c LY D cy ad cX12_feed RX12 6 2 (some .int)) (x1 : Int32) (x2 : Int32) (x3 : Int32) (x4 : Int32) (x5 : Int32) (M : Mem) : BL p l e (rmL 2) s m args below meth c LY D cy ad 6 (QI LY D cy ad) 0 [(0, .ref (ad 0)), (1, .int x1), (2, .int x2), (3, .int x3), (4, .int x4), (5, .int x5)] [] M (fX12_feed n0 x1 x2 x3 x4 x5 M) := by
  unfold fX12_feed
  refine b_aload_n hO dX12_feed_0 0 rfl rfl ?_
  refine b_get hO flX12_13 kLY_0 (v := .int (gI _ 1)) rfl dX12_feed_1 ?_
  refine b_bipush hO dX12_feed_4 ic_b_20 ?_
  refine b_iadd hO dX12_feed_6 ?_
  refine b_sipush hO dX12_feed_7 ic_s_1600 ?_
  refine b_icmp_le hO dX12_feed_10 (tgt := 19) (by decide) ?_ ?_
  · refine b_aload_n hO dX12_feed_19 0 rfl rfl ?_
    refine b_iload_n hO dX12_feed_20 1 rfl rfl ?_
    refine b_callVV hO mdX12_put mvX12_put w1457 (ci := 12) rfl rfl (by decide) kLY_0 (As := [.int _]) (st := []) (ctX12_put n0 hO.2.2.2.2.2.2.1 _ _) (Nat.le_of_ble_eq_true rfl) rfl rfl (Nat.le_of_ble_eq_true rfl) dX12_feed_21 (fun z21 => ?_)
    refine b_aload_n hO dX12_feed_24 0 rfl rfl ?_
    refine b_iload_n hO dX12_feed_25 2 rfl rfl ?_
    refine b_callVV hO mdX12_put mvX12_put w1457 (ci := 12) rfl rfl (by decide) kLY_0 (As := [.int _]) (st := []) (ctX12_put n0 hO.2.2.2.2.2.2.1 _ _) (Nat.le_of_ble_eq_true rfl) rfl rfl (Nat.le_of_ble_eq_true rfl) dX12_feed_26 (fun z26 => ?_)
    refine b_aload_n hO dX12_feed_29 0 rfl rfl ?_
    refine b_iload_n hO dX12_feed_30 3 rfl rfl ?_
    refine b_callVV hO mdX12_put mvX12_put w1457 (ci := 12) rfl rfl (by decide) kLY_0 (As := [.int _]) (st := []) (ctX12_put n0 hO.2.2.2.2.2.2.1 _ _) (Nat.le_of_ble_eq_true rfl) rfl rfl (Nat.le_of_ble_eq_true rfl) dX12_feed_31 (fun z31 => ?_)
    refine b_aload_n hO dX12_feed_34 0 rfl rfl ?_
    refine b_iload hO dX12_feed_35 4 rfl ?_
    refine b_callVV hO mdX12_put mvX12_put w1457 (ci := 12) rfl rfl (by decide) kLY_0 (As := [.int _]) (st := []) (ctX12_put n0 hO.2.2.2.2.2.2.1 _ _) (Nat.le_of_ble_eq_true rfl) rfl rfl (Nat.le_of_ble_eq_true rfl) dX12_feed_37 (fun z37 => ?_)
    refine b_aload_n hO dX12_feed_40 0 rfl rfl ?_
    refine b_iload hO dX12_feed_41 5 rfl ?_
    refine b_callVV hO mdX12_put mvX12_put w1457 (ci := 12) rfl rfl (by decide) kLY_0 (As := [.int _]) (st := []) (ctX12_put n0 hO.2.2.2.2.2.2.1 _ _) (Nat.le_of_ble_eq_true rfl) rfl rfl (Nat.le_of_ble_eq_true rfl) dX12_feed_43 (fun z43 => ?_)
    refine b_aload_n hO dX12_feed_46 0 rfl rfl ?_
    refine b_get hO flX12_13 kLY_0 (v := .int (gI _ 1)) rfl dX12_feed_47 ?_
    exact b_iret hO dX12_feed_50
  · refine b_aload_n hO dX12_feed_13 0 rfl rfl ?_
    refine b_iconst hO dX12_feed_14 ic_i_0 ?_
    refine b_callVI hO mdX12_refuses mvX12_refuses w1453 (ci := 12) rfl rfl (by decide) kLY_0 (As := [.int _]) (st := []) (ctX12_refuses n0 hO.2.2.2.2.2.2.1 _ _) (Nat.le_of_ble_eq_true rfl) rfl rfl (Nat.le_of_ble_eq_true rfl) dX12_feed_15 (fun z15 => ?_)
    exact b_iret hO dX12_feed_18
theorem ctX12_feed (n0 : Nat) (hI : Inj LY ad) (x1 : Int32) (x2 : Int32) (x3 : Int32) (x4 : Int32) (x5 : Int32) (M : Mem) : CT l LY D cy ad yX12_feed cX12_feed 6 (some .int) 2 (QI LY D cy ad) [.ref (ad 0), .int x1, .int x2, .int x3, .int x4, .int x5] M (fX12_feed n0 x1 x2 x3 x4 x5 M) :=
  CT.mk LYok hI (by decide) (Nat.le_of_ble_eq_true rfl) (fun hO => tfX12_feed n0 hO x1 x2 x3 x4 x5 M)
/-! X12_end -/
def fX12_end_12 (n0 : Nat) (M : Mem) : Option (Int32 × Mem) :=
  (fX12_refuses n0 (0 : Int32) M).bind fun z14 =>
  if z14.1 < 0 then
    some ((0 : Int32), z14.2)
  else
    some ((1 : Int32), z14.2)
def fX12_end (n0 : Nat) (x1 : Int32) (M : Mem) : Option (Int32 × Mem) :=
  if x1 < 0 then
    fX12_end_12 n0 M
  else
    if x1 ≤ (gI M 1) then
      bnd (sI M 1 x1) fun M28 =>
      some ((1 : Int32), M28)
    else
      fX12_end_12 n0 M
theorem tfX12_end_12 (n0 : Nat) (hO : OKc p (rmL 2) s m args meth c LY D cy ad cX12_end RX12 2 2 (some .boolean)) (M : Mem) : BL p l e (rmL 2) s m args below meth c LY D cy ad 2 (QI LY D cy ad) 12 [(0, .ref (ad 0))] [] M (fX12_end_12 n0 M) := by
  unfold fX12_end_12
  refine b_aload_n hO dX12_end_12 0 rfl rfl ?_
  refine b_iconst hO dX12_end_13 ic_i_0 ?_
  refine b_callVI hO mdX12_refuses mvX12_refuses w1453 (ci := 12) rfl rfl (by decide) kLY_0 (As := [.int _]) (st := []) (ctX12_refuses n0 hO.2.2.2.2.2.2.1 _ _) (Nat.le_of_ble_eq_true rfl) rfl rfl (Nat.le_of_ble_eq_true rfl) dX12_end_14 (fun z14 => ?_)
  refine b_if_lt hO dX12_end_17 (tgt := 24) (by decide) ?_ ?_
  · refine b_iconst hO dX12_end_24 ic_i_0 ?_
    exact b_zretc hO (Or.inl rfl) dX12_end_25
  · refine b_iconst hO dX12_end_20 ic_i_1 ?_
    refine b_goto hO dX12_end_21 (tgt := 25) (by decide) ?_
    exact b_zretc hO (Or.inr rfl) dX12_end_25
theorem tfX12_end (n0 : Nat) (hO : OKc p (rmL 2) s m args meth c LY D cy ad cX12_end RX12 2 2 (some .boolean)) (x1 : Int32) (M : Mem) : BL p l e (rmL 2) s m args below meth c LY D cy ad 2 (QI LY D cy ad) 0 [(0, .ref (ad 0)), (1, .int x1)] [] M (fX12_end n0 x1 M) := by
  unfold fX12_end
  refine b_iload_n hO dX12_end_0 1 rfl rfl ?_
  refine b_if_lt hO dX12_end_1 (tgt := 12) (by decide) ?_ ?_
  · refine b_sub [0] rfl ?_
    exact tfX12_end_12 n0 hO _
  · refine b_iload_n hO dX12_end_4 1 rfl rfl ?_
    refine b_aload_n hO dX12_end_5 0 rfl rfl ?_
    refine b_get hO flX12_13 kLY_0 (v := .int (gI _ 1)) rfl dX12_end_6 ?_
    refine b_icmp_le hO dX12_end_9 (tgt := 26) (by decide) ?_ ?_
    · refine b_aload_n hO dX12_end_26 0 rfl rfl ?_
      refine b_iload_n hO dX12_end_27 1 rfl rfl ?_
      refine b_putI hO flX12_13 kLY_0 rfl rfl rfl (id := 1) rfl dX12_end_28 ?_
      refine b_bnd (fun M28 => ?_)
      refine b_iconst hO dX12_end_31 ic_i_1 ?_
      exact b_zretc hO (Or.inr rfl) dX12_end_32
    · refine b_sub [0] rfl ?_
      exact tfX12_end_12 n0 hO _
theorem ctX12_end (n0 : Nat) (hI : Inj LY ad) (x1 : Int32) (M : Mem) : CT l LY D cy ad yX12_end cX12_end 2 (some .boolean) 2 (QI LY D cy ad) [.ref (ad 0), .int x1] M (fX12_end n0 x1 M) :=
  CT.mk LYok hI (by decide) (Nat.le_of_ble_eq_true rfl) (fun hO => tfX12_end n0 hO x1 M)
/-! X12_blame -/
def fX12_blame (n0 : Nat) (x1 : Int32) (x2 : Int32) (M : Mem) : Option (Mem) :=
  if (gI M 8) ≤ 0 then
    bnd (sI M 8 x1) fun M10 =>
    some (sI M10 9 x2)
  else
    some M
theorem tfX12_blame (n0 : Nat) (hO : OKc p (rmL 1) s m args meth c LY D cy ad cX12_blame RX12 3 1 none) (x1 : Int32) (x2 : Int32) (M : Mem) : BL p l e (rmL 1) s m args below meth c LY D cy ad 3 (QV LY D cy ad) 0 [(0, .ref (ad 0)), (1, .int x1), (2, .int x2)] [] M (fX12_blame n0 x1 x2 M) := by
  unfold fX12_blame
  refine b_aload_n hO dX12_blame_0 0 rfl rfl ?_
  refine b_get hO flX12_36 kLY_0 (v := .int (gI _ 8)) rfl dX12_blame_1 ?_
  refine b_if_le hO dX12_blame_4 (tgt := 8) (by decide) ?_ ?_
  · refine b_aload_n hO dX12_blame_8 0 rfl rfl ?_
    refine b_iload_n hO dX12_blame_9 1 rfl rfl ?_
    refine b_putI hO flX12_36 kLY_0 rfl rfl rfl (id := 8) rfl dX12_blame_10 ?_
    refine b_bnd (fun M10 => ?_)
    refine b_aload_n hO dX12_blame_13 0 rfl rfl ?_
    refine b_iload_n hO dX12_blame_14 2 rfl rfl ?_
    refine b_putI hO flX12_39 kLY_0 rfl rfl rfl (id := 9) rfl dX12_blame_15 ?_
    exact b_vret hO dX12_blame_18
  · exact b_vret hO dX12_blame_7
theorem ctX12_blame (n0 : Nat) (hI : Inj LY ad) (x1 : Int32) (x2 : Int32) (M : Mem) : CT l LY D cy ad yX12_blame cX12_blame 3 none 1 (QV LY D cy ad) [.ref (ad 0), .int x1, .int x2] M (fX12_blame n0 x1 x2 M) :=
  CT.mk LYok hI (by decide) (Nat.le_of_ble_eq_true rfl) (fun hO => tfX12_blame n0 hO x1 x2 M)
/-! X12_isLetter -/
def fX12_isLetter (n0 : Nat) (x0 : Int32) (M : Mem) : Option (Int32 × Mem) :=
  if x0 < (97 : Int32) then
    some ((0 : Int32), M)
  else
    if (122 : Int32) < x0 then
      some ((0 : Int32), M)
    else
      some ((1 : Int32), M)
theorem tfX12_isLetter (n0 : Nat) (hO : OKc p (rmL 1) s m args meth c LY D cy ad cX12_isLetter RX12 1 1 (some .boolean)) (x0 : Int32) (M : Mem) : BL p l e (rmL 1) s m args below meth c LY D cy ad 1 (QI LY D cy ad) 0 [(0, .int x0)] [] M (fX12_isLetter n0 x0 M) := by
  unfold fX12_isLetter
  refine b_iload_n hO dX12_isLetter_0 0 rfl rfl ?_
  refine b_bipush hO dX12_isLetter_1 ic_b_97 ?_
  refine b_icmp_lt hO dX12_isLetter_3 (tgt := 16) (by decide) ?_ ?_
  · refine b_iconst hO dX12_isLetter_16 ic_i_0 ?_
    exact b_zretc hO (Or.inl rfl) dX12_isLetter_17
  · refine b_iload_n hO dX12_isLetter_6 0 rfl rfl ?_
    refine b_bipush hO dX12_isLetter_7 ic_b_122 ?_
    refine b_icmp_gt hO dX12_isLetter_9 (tgt := 16) (by decide) ?_ ?_
    · refine b_iconst hO dX12_isLetter_16 ic_i_0 ?_
      exact b_zretc hO (Or.inl rfl) dX12_isLetter_17
    · refine b_iconst hO dX12_isLetter_12 ic_i_1 ?_
      refine b_goto hO dX12_isLetter_13 (tgt := 17) (by decide) ?_
      exact b_zretc hO (Or.inr rfl) dX12_isLetter_17
theorem ctX12_isLetter (n0 : Nat) (hI : Inj LY ad) (x0 : Int32) (M : Mem) : CT l LY D cy ad yX12_isLetter cX12_isLetter 1 (some .boolean) 1 (QI LY D cy ad) [.int x0] M (fX12_isLetter n0 x0 M) :=
  CT.mk LYok hI (by decide) (Nat.le_of_ble_eq_true rfl) (fun hO => tfX12_isLetter n0 hO x0 M)
/-! X12_isDigit -/
def fX12_isDigit (n0 : Nat) (x0 : Int32) (M : Mem) : Option (Int32 × Mem) :=
  if x0 < (48 : Int32) then
    some ((0 : Int32), M)
  else
    if (57 : Int32) < x0 then
      some ((0 : Int32), M)
    else
      some ((1 : Int32), M)
theorem tfX12_isDigit (n0 : Nat) (hO : OKc p (rmL 1) s m args meth c LY D cy ad cX12_isDigit RX12 1 1 (some .boolean)) (x0 : Int32) (M : Mem) : BL p l e (rmL 1) s m args below meth c LY D cy ad 1 (QI LY D cy ad) 0 [(0, .int x0)] [] M (fX12_isDigit n0 x0 M) := by
  unfold fX12_isDigit
  refine b_iload_n hO dX12_isDigit_0 0 rfl rfl ?_
  refine b_bipush hO dX12_isDigit_1 ic_b_48 ?_
  refine b_icmp_lt hO dX12_isDigit_3 (tgt := 16) (by decide) ?_ ?_
  · refine b_iconst hO dX12_isDigit_16 ic_i_0 ?_
    exact b_zretc hO (Or.inl rfl) dX12_isDigit_17
  · refine b_iload_n hO dX12_isDigit_6 0 rfl rfl ?_
    refine b_bipush hO dX12_isDigit_7 ic_b_57 ?_
    refine b_icmp_gt hO dX12_isDigit_9 (tgt := 16) (by decide) ?_ ?_
    · refine b_iconst hO dX12_isDigit_16 ic_i_0 ?_
      exact b_zretc hO (Or.inl rfl) dX12_isDigit_17
    · refine b_iconst hO dX12_isDigit_12 ic_i_1 ?_
      refine b_goto hO dX12_isDigit_13 (tgt := 17) (by decide) ?_
      exact b_zretc hO (Or.inr rfl) dX12_isDigit_17
theorem ctX12_isDigit (n0 : Nat) (hI : Inj LY ad) (x0 : Int32) (M : Mem) : CT l LY D cy ad yX12_isDigit cX12_isDigit 1 (some .boolean) 1 (QI LY D cy ad) [.int x0] M (fX12_isDigit n0 x0 M) :=
  CT.mk LYok hI (by decide) (Nat.le_of_ble_eq_true rfl) (fun hO => tfX12_isDigit n0 hO x0 M)
/-! X12_lex -/
def fX12_lex (n0 : Nat) (M : Mem) : Option (Mem) :=
  if (gI M 12) = (-1 : Int32) then
    some M
  else
    (fX12_blame n0 (1 : Int32) (gI M 12) M).bind fun z14 =>
    some z14
theorem tfX12_lex (n0 : Nat) (hO : OKc p (rmL 2) s m args meth c LY D cy ad cX12_lex RX12 1 2 none) (M : Mem) : BL p l e (rmL 2) s m args below meth c LY D cy ad 1 (QV LY D cy ad) 0 [(0, .ref (ad 0))] [] M (fX12_lex n0 M) := by
  unfold fX12_lex
  refine b_aload_n hO dX12_lex_0 0 rfl rfl ?_
  refine b_get hO flX12_48 kLY_0 (v := .int (gI _ 12)) rfl dX12_lex_1 ?_
  refine b_iconst hO dX12_lex_4 ic_i_m1 ?_
  refine b_icmp_eq hO dX12_lex_5 (tgt := 17) (by decide) ?_ ?_
  · exact b_vret hO dX12_lex_17
  · refine b_aload_n hO dX12_lex_8 0 rfl rfl ?_
    refine b_iconst hO dX12_lex_9 ic_i_1 ?_
    refine b_aload_n hO dX12_lex_10 0 rfl rfl ?_
    refine b_get hO flX12_48 kLY_0 (v := .int (gI _ 12)) rfl dX12_lex_11 ?_
    refine b_callVV hO mdX12_blame mvX12_blame w1491 (ci := 12) rfl rfl (by decide) kLY_0 (As := [.int _, .int _]) (st := []) (ctX12_blame n0 hO.2.2.2.2.2.2.1 _ _ _) (Nat.le_of_ble_eq_true rfl) rfl rfl (Nat.le_of_ble_eq_true rfl) dX12_lex_14 (fun z14 => ?_)
    exact b_vret hO dX12_lex_17
theorem ctX12_lex (n0 : Nat) (hI : Inj LY ad) (M : Mem) : CT l LY D cy ad yX12_lex cX12_lex 1 none 2 (QV LY D cy ad) [.ref (ad 0)] M (fX12_lex n0 M) :=
  CT.mk LYok hI (by decide) (Nat.le_of_ble_eq_true rfl) (fun hO => tfX12_lex n0 hO M)
/-! X12_ahead -/
def fX12_ahead_35 (n0 : Nat) (k5 : Int32 → Mem → Option (Mem)) (x1 : Int32) (M : Mem) : Option (Mem) :=
  k5 (x1 + (1 : Int32)) M
def fX12_ahead_325 (n0 : Nat) (k204 : Int32 → Int32 → Int32 → Int32 → Int32 → Mem → Option (Mem)) (x1 : Int32) (x2 : Int32) (x3 : Int32) (x4 : Int32) (x5 : Int32) (M : Mem) : Option (Mem) :=
  k204 (x1 + (1 : Int32)) x2 x3 x4 (x5 + (1 : Int32)) M
def fX12_ahead_293 (n0 : Nat) (k204 : Int32 → Int32 → Int32 → Int32 → Int32 → Mem → Option (Mem)) (x1 : Int32) (x2 : Int32) (x3 : Int32) (x4 : Int32) (x5 : Int32) (M : Mem) : Option (Mem) :=
  if x4 ≤ x5 then
    fX12_ahead_325 n0 k204 x1 x2 x3 x4 x5 M
  else
    if x3 = 0 then
      fX12_ahead_325 n0 k204 x1 x2 x3 x4 x5 M
    else
      if oob x1 1800 then none else
      fX12_ahead_325 n0 k204 x1 x2 x3 x4 x5 (sI M 6 ((((10 : Int32) * (gI M 6)) + (gA M 1 (Int32.toNatClampNeg x1))) - (48 : Int32)))
def fX12_ahead_263 (n0 : Nat) (k204 : Int32 → Int32 → Int32 → Int32 → Int32 → Mem → Option (Mem)) (x1 : Int32) (x2 : Int32) (x3 : Int32) (x4 : Int32) (x5 : Int32) (M : Mem) : Option (Mem) :=
  if x4 ≤ x5 then
    fX12_ahead_293 n0 k204 x1 x2 x3 x4 x5 M
  else
    if x2 = 0 then
      fX12_ahead_293 n0 k204 x1 x2 x3 x4 x5 M
    else
      if oob x1 1800 then none else
      fX12_ahead_293 n0 k204 x1 x2 x3 x4 x5 (sL M 7 (((gL M 7) <<< (((8 : Int32)).toInt64 &&& 63)) ||| ((gA M 1 (Int32.toNatClampNeg x1))).toInt64))
def fX12_ahead_243 (n0 : Nat) (k204 : Int32 → Int32 → Int32 → Int32 → Int32 → Mem → Option (Mem)) (x1 : Int32) (x2 : Int32) (x3 : Int32) (x4 : Int32) (x5 : Int32) (M : Mem) : Option (Mem) :=
  if x5 = x4 then
    if (gI M 12) = (-1 : Int32) then
      fX12_ahead_263 n0 k204 x1 x2 x3 x4 x5 (sI M 12 x1)
    else
      fX12_ahead_263 n0 k204 x1 x2 x3 x4 x5 M
  else
    fX12_ahead_263 n0 k204 x1 x2 x3 x4 x5 M
def fX12_ahead_334 (n0 : Nat) (x1 : Int32) (M : Mem) : Option (Mem) :=
  some (sI M 5 x1)
def bX12_ahead_204 (n0 : Nat) (k204 : Int32 → Int32 → Int32 → Int32 → Int32 → Mem → Option (Mem)) (x1 : Int32) (x2 : Int32) (x3 : Int32) (x4 : Int32) (x5 : Int32) (M : Mem) : Option (Mem) :=
  if (gI M 2) ≤ x1 then
    fX12_ahead_334 n0 x1 M
  else
    if x2 = 0 then
      if oob x1 1800 then none else
      (fX12_isDigit n0 (gA M 1 (Int32.toNatClampNeg x1)) M).bind fun z237 =>
      if z237.1 = 0 then
        fX12_ahead_334 n0 x1 z237.2
      else
        fX12_ahead_243 n0 k204 x1 x2 x3 x4 x5 z237.2
    else
      if oob x1 1800 then none else
      (fX12_isLetter n0 (gA M 1 (Int32.toNatClampNeg x1)) M).bind fun z222 =>
      if z222.1 = 0 then
        fX12_ahead_334 n0 x1 z222.2
      else
        fX12_ahead_243 n0 k204 x1 x2 x3 x4 x5 z222.2
def fX12_ahead_204 (n0 : Nat) : Int32 → Int32 → Int32 → Int32 → Int32 → Mem → Option (Mem) := loopN (bX12_ahead_204 n0) (fun _ _ _ _ _ _ => none) n0
def fX12_ahead_199 (n0 : Nat) (x1 : Int32) (x2 : Int32) (x3 : Int32) (u0 : Int32) (M : Mem) : Option (Mem) :=
  fX12_ahead_204 n0 x1 x2 x3 u0 (0 : Int32) M
def fX12_ahead_186 (n0 : Nat) (x1 : Int32) (x2 : Int32) (x3 : Int32) (u1 : Int32) (M : Mem) : Option (Mem) :=
  bnd (sI M 3 u1) fun M186 =>
  if x2 = 0 then
    fX12_ahead_199 n0 x1 x2 x3 (4 : Int32) M186
  else
    fX12_ahead_199 n0 x1 x2 x3 (6 : Int32) M186
def fX12_ahead_176 (n0 : Nat) (x1 : Int32) (x2 : Int32) (x3 : Int32) (M : Mem) : Option (Mem) :=
  if x2 = 0 then
    fX12_ahead_186 n0 x1 x2 x3 (2 : Int32) M
  else
    fX12_ahead_186 n0 x1 x2 x3 (1 : Int32) M
def fX12_ahead_135 (n0 : Nat) (x1 : Int32) (x2 : Int32) (x3 : Int32) (M : Mem) : Option (Mem) :=
  bnd (sI M 6 (0 : Int32)) fun M137 =>
  bnd (sL M137 7 (0 : Int64)) fun M142 =>
  bnd (sI M142 3 (3 : Int32)) fun M147 =>
  bnd (sI M147 5 (x1 + (1 : Int32))) fun M154 =>
  if x2 = 0 then
    if x3 = 0 then
      if oob x1 1800 then none else
      some (sI M154 6 (gA M154 1 (Int32.toNatClampNeg x1)))
    else
      fX12_ahead_176 n0 x1 x2 x3 M154
  else
    fX12_ahead_176 n0 x1 x2 x3 M154
def fX12_ahead_130 (n0 : Nat) (x1 : Int32) (x2 : Int32) (x3 : Int32) (M : Mem) : Option (Mem) :=
  fX12_ahead_135 n0 x1 x2 x3 (sI M 12 x1)
def fX12_ahead_98 (n0 : Nat) (x1 : Int32) (x2 : Int32) (x3 : Int32) (M : Mem) : Option (Mem) :=
  if x1 ≤ 0 then
    fX12_ahead_135 n0 x1 x2 x3 M
  else
    if oob (x1 - (1 : Int32)) 1800 then none else
    (fX12_isLetter n0 (gA M 1 (Int32.toNatClampNeg (x1 - (1 : Int32)))) M).bind fun z110 =>
    if z110.1 = 0 then
      if oob (x1 - (1 : Int32)) 1800 then none else
      (fX12_isDigit n0 (gA z110.2 1 (Int32.toNatClampNeg (x1 - (1 : Int32)))) z110.2).bind fun z124 =>
      if z124.1 = 0 then
        fX12_ahead_135 n0 x1 x2 x3 z124.2
      else
        fX12_ahead_130 n0 x1 x2 x3 z124.2
    else
      fX12_ahead_130 n0 x1 x2 x3 z110.2
def fX12_ahead_41 (n0 : Nat) (x1 : Int32) (M : Mem) : Option (Mem) :=
  bnd (sI M 4 x1) fun M43 =>
  bnd (sI M43 5 x1) fun M48 =>
  bnd (sI M48 3 (0 : Int32)) fun M53 =>
  bnd (sI M53 12 (-1 : Int32)) fun M58 =>
  if x1 < (gI M58 2) then
    if oob x1 1800 then none else
    (fX12_isLetter n0 (gA M58 1 (Int32.toNatClampNeg x1)) M58).bind fun z76 =>
    if oob x1 1800 then none else
    (fX12_isDigit n0 (gA z76.2 1 (Int32.toNatClampNeg x1)) z76.2).bind fun z86 =>
    if z76.1 = 0 then
      if z86.1 = 0 then
        fX12_ahead_135 n0 x1 z76.1 z86.1 z86.2
      else
        fX12_ahead_98 n0 x1 z76.1 z86.1 z86.2
    else
      fX12_ahead_98 n0 x1 z76.1 z86.1 z86.2
  else
    some M58
def bX12_ahead_5 (n0 : Nat) (k5 : Int32 → Mem → Option (Mem)) (x1 : Int32) (M : Mem) : Option (Mem) :=
  if (gI M 2) ≤ x1 then
    fX12_ahead_41 n0 x1 M
  else
    if oob x1 1800 then none else
    if (gA M 1 (Int32.toNatClampNeg x1)) = (32 : Int32) then
      fX12_ahead_35 n0 k5 x1 M
    else
      if oob x1 1800 then none else
      if (gA M 1 (Int32.toNatClampNeg x1)) = (10 : Int32) then
        fX12_ahead_35 n0 k5 x1 M
      else
        fX12_ahead_41 n0 x1 M
def fX12_ahead_5 (n0 : Nat) : Int32 → Mem → Option (Mem) := loopN (bX12_ahead_5 n0) (fun _ _ => none) n0
def fX12_ahead (n0 : Nat) (M : Mem) : Option (Mem) :=
  bnd (gI M 5) fun x1_4 =>
  fX12_ahead_5 n0 x1_4 M
theorem tfX12_ahead_35 (n0 : Nat) (hO : OKc p (rmL 2) s m args meth c LY D cy ad cX12_ahead RX12 6 2 none) (k5 : Int32 → Mem → Option (Mem)) (hk5 : ∀ (x1 : Int32) (M : Mem), BL p l e (rmL 2) s m args below meth c LY D cy ad 6 (QV LY D cy ad) 5 [(0, .ref (ad 0)), (1, .int x1)] [] M (k5 x1 M)) (x1 : Int32) (M : Mem) : BL p l e (rmL 2) s m args below meth c LY D cy ad 6 (QV LY D cy ad) 35 [(0, .ref (ad 0)), (1, .int x1)] [] M (fX12_ahead_35 n0 k5 x1 M) := by
  unfold fX12_ahead_35
  refine b_iinc hO dX12_ahead_35 1 rfl ic_i_1 (by decide) (lv' := [(1, .int _), (0, .ref _)]) rfl ?_
  refine b_goto hO dX12_ahead_38 (tgt := 5) (by decide) ?_
  refine b_sub [1, 0] rfl ?_
  exact hk5 _ _
theorem tfX12_ahead_325 (n0 : Nat) (hO : OKc p (rmL 2) s m args meth c LY D cy ad cX12_ahead RX12 6 2 none) (k204 : Int32 → Int32 → Int32 → Int32 → Int32 → Mem → Option (Mem)) (hk204 : ∀ (x1 : Int32) (x2 : Int32) (x3 : Int32) (x4 : Int32) (x5 : Int32) (M : Mem), BL p l e (rmL 2) s m args below meth c LY D cy ad 6 (QV LY D cy ad) 204 [(0, .ref (ad 0)), (1, .int x1), (2, .int x2), (3, .int x3), (4, .int x4), (5, .int x5)] [] M (k204 x1 x2 x3 x4 x5 M)) (x1 : Int32) (x2 : Int32) (x3 : Int32) (x4 : Int32) (x5 : Int32) (M : Mem) : BL p l e (rmL 2) s m args below meth c LY D cy ad 6 (QV LY D cy ad) 325 [(0, .ref (ad 0)), (1, .int x1), (2, .int x2), (3, .int x3), (4, .int x4), (5, .int x5)] [] M (fX12_ahead_325 n0 k204 x1 x2 x3 x4 x5 M) := by
  unfold fX12_ahead_325
  refine b_iinc hO dX12_ahead_325 5 rfl ic_i_1 (by decide) (lv' := [(5, .int _), (0, .ref _), (1, .int _), (2, .int _), (3, .int _), (4, .int _)]) rfl ?_
  refine b_iinc hO dX12_ahead_328 2 rfl ic_i_1 (by decide) (lv' := [(1, .int _), (5, .int _), (0, .ref _), (2, .int _), (3, .int _), (4, .int _)]) rfl ?_
  refine b_goto hO dX12_ahead_331 (tgt := 204) (by decide) ?_
  refine b_sub [2, 0, 3, 4, 5, 1] rfl ?_
  exact hk204 _ _ _ _ _ _
theorem tfX12_ahead_293 (n0 : Nat) (hO : OKc p (rmL 2) s m args meth c LY D cy ad cX12_ahead RX12 6 2 none) (k204 : Int32 → Int32 → Int32 → Int32 → Int32 → Mem → Option (Mem)) (hk204 : ∀ (x1 : Int32) (x2 : Int32) (x3 : Int32) (x4 : Int32) (x5 : Int32) (M : Mem), BL p l e (rmL 2) s m args below meth c LY D cy ad 6 (QV LY D cy ad) 204 [(0, .ref (ad 0)), (1, .int x1), (2, .int x2), (3, .int x3), (4, .int x4), (5, .int x5)] [] M (k204 x1 x2 x3 x4 x5 M)) (x1 : Int32) (x2 : Int32) (x3 : Int32) (x4 : Int32) (x5 : Int32) (M : Mem) : BL p l e (rmL 2) s m args below meth c LY D cy ad 6 (QV LY D cy ad) 293 [(0, .ref (ad 0)), (1, .int x1), (2, .int x2), (3, .int x3), (4, .int x4), (5, .int x5)] [] M (fX12_ahead_293 n0 k204 x1 x2 x3 x4 x5 M) := by
  unfold fX12_ahead_293
  refine b_iload hO dX12_ahead_293 5 rfl ?_
  refine b_iload hO dX12_ahead_295 4 rfl ?_
  refine b_icmp_ge hO dX12_ahead_297 (tgt := 325) (by decide) ?_ ?_
  · exact tfX12_ahead_325 n0 hO k204 hk204 _ _ _ _ _ _
  · refine b_iload_n hO dX12_ahead_300 3 rfl rfl ?_
    refine b_if_eq hO dX12_ahead_301 (tgt := 325) (by decide) ?_ ?_
    · exact tfX12_ahead_325 n0 hO k204 hk204 _ _ _ _ _ _
    · refine b_aload_n hO dX12_ahead_304 0 rfl rfl ?_
      refine b_bipush hO dX12_ahead_305 ic_b_10 ?_
      refine b_aload_n hO dX12_ahead_307 0 rfl rfl ?_
      refine b_get hO flX12_29 kLY_0 (v := .int (gI _ 6)) rfl dX12_ahead_308 ?_
      refine b_imul hO dX12_ahead_311 ?_
      refine b_aload_n hO dX12_ahead_312 0 rfl rfl ?_
      refine b_get hO flX12_7 kLY_0 (v := .ref (ad 1)) rfl dX12_ahead_313 ?_
      refine b_iload_n hO dX12_ahead_316 1 rfl rfl ?_
      refine b_iald hO kLY_1 (n := 1800) rfl dX12_ahead_317 ?_
      refine b_iadd hO dX12_ahead_318 ?_
      refine b_bipush hO dX12_ahead_319 ic_b_48 ?_
      refine b_isub hO dX12_ahead_321 ?_
      refine b_putI hO flX12_29 kLY_0 rfl rfl rfl (id := 6) rfl dX12_ahead_322 ?_
      exact tfX12_ahead_325 n0 hO k204 hk204 _ _ _ _ _ _
theorem tfX12_ahead_263 (n0 : Nat) (hO : OKc p (rmL 2) s m args meth c LY D cy ad cX12_ahead RX12 6 2 none) (k204 : Int32 → Int32 → Int32 → Int32 → Int32 → Mem → Option (Mem)) (hk204 : ∀ (x1 : Int32) (x2 : Int32) (x3 : Int32) (x4 : Int32) (x5 : Int32) (M : Mem), BL p l e (rmL 2) s m args below meth c LY D cy ad 6 (QV LY D cy ad) 204 [(0, .ref (ad 0)), (1, .int x1), (2, .int x2), (3, .int x3), (4, .int x4), (5, .int x5)] [] M (k204 x1 x2 x3 x4 x5 M)) (x1 : Int32) (x2 : Int32) (x3 : Int32) (x4 : Int32) (x5 : Int32) (M : Mem) : BL p l e (rmL 2) s m args below meth c LY D cy ad 6 (QV LY D cy ad) 263 [(0, .ref (ad 0)), (1, .int x1), (2, .int x2), (3, .int x3), (4, .int x4), (5, .int x5)] [] M (fX12_ahead_263 n0 k204 x1 x2 x3 x4 x5 M) := by
  unfold fX12_ahead_263
  refine b_iload hO dX12_ahead_263 5 rfl ?_
  refine b_iload hO dX12_ahead_265 4 rfl ?_
  refine b_icmp_ge hO dX12_ahead_267 (tgt := 293) (by decide) ?_ ?_
  · exact tfX12_ahead_293 n0 hO k204 hk204 _ _ _ _ _ _
  · refine b_iload_n hO dX12_ahead_270 2 rfl rfl ?_
    refine b_if_eq hO dX12_ahead_271 (tgt := 293) (by decide) ?_ ?_
    · exact tfX12_ahead_293 n0 hO k204 hk204 _ _ _ _ _ _
    · refine b_aload_n hO dX12_ahead_274 0 rfl rfl ?_
      refine b_aload_n hO dX12_ahead_275 0 rfl rfl ?_
      refine b_get hO flX12_32 kLY_0 (v := .long (gL _ 7)) rfl dX12_ahead_276 ?_
      refine b_bipush hO dX12_ahead_279 ic_b_8 ?_
      refine b_lshl hO dX12_ahead_281 ?_
      refine b_aload_n hO dX12_ahead_282 0 rfl rfl ?_
      refine b_get hO flX12_7 kLY_0 (v := .ref (ad 1)) rfl dX12_ahead_283 ?_
      refine b_iload_n hO dX12_ahead_286 1 rfl rfl ?_
      refine b_iald hO kLY_1 (n := 1800) rfl dX12_ahead_287 ?_
      refine b_i2l hO dX12_ahead_288 ?_
      refine b_lor hO dX12_ahead_289 ?_
      refine b_putL hO flX12_32 kLY_0 rfl rfl rfl (id := 7) rfl dX12_ahead_290 ?_
      exact tfX12_ahead_293 n0 hO k204 hk204 _ _ _ _ _ _
theorem tfX12_ahead_243 (n0 : Nat) (hO : OKc p (rmL 2) s m args meth c LY D cy ad cX12_ahead RX12 6 2 none) (k204 : Int32 → Int32 → Int32 → Int32 → Int32 → Mem → Option (Mem)) (hk204 : ∀ (x1 : Int32) (x2 : Int32) (x3 : Int32) (x4 : Int32) (x5 : Int32) (M : Mem), BL p l e (rmL 2) s m args below meth c LY D cy ad 6 (QV LY D cy ad) 204 [(0, .ref (ad 0)), (1, .int x1), (2, .int x2), (3, .int x3), (4, .int x4), (5, .int x5)] [] M (k204 x1 x2 x3 x4 x5 M)) (x1 : Int32) (x2 : Int32) (x3 : Int32) (x4 : Int32) (x5 : Int32) (M : Mem) : BL p l e (rmL 2) s m args below meth c LY D cy ad 6 (QV LY D cy ad) 243 [(0, .ref (ad 0)), (1, .int x1), (2, .int x2), (3, .int x3), (4, .int x4), (5, .int x5)] [] M (fX12_ahead_243 n0 k204 x1 x2 x3 x4 x5 M) := by
  unfold fX12_ahead_243
  refine b_iload hO dX12_ahead_243 5 rfl ?_
  refine b_iload hO dX12_ahead_245 4 rfl ?_
  refine b_icmp_ne hO dX12_ahead_247 (tgt := 263) (by decide) ?_ ?_
  · exact tfX12_ahead_263 n0 hO k204 hk204 _ _ _ _ _ _
  · refine b_aload_n hO dX12_ahead_250 0 rfl rfl ?_
    refine b_get hO flX12_48 kLY_0 (v := .int (gI _ 12)) rfl dX12_ahead_251 ?_
    refine b_iconst hO dX12_ahead_254 ic_i_m1 ?_
    refine b_icmp_ne hO dX12_ahead_255 (tgt := 263) (by decide) ?_ ?_
    · exact tfX12_ahead_263 n0 hO k204 hk204 _ _ _ _ _ _
    · refine b_aload_n hO dX12_ahead_258 0 rfl rfl ?_
      refine b_iload_n hO dX12_ahead_259 1 rfl rfl ?_
      refine b_putI hO flX12_48 kLY_0 rfl rfl rfl (id := 12) rfl dX12_ahead_260 ?_
      exact tfX12_ahead_263 n0 hO k204 hk204 _ _ _ _ _ _
theorem tfX12_ahead_334 (n0 : Nat) (hO : OKc p (rmL 2) s m args meth c LY D cy ad cX12_ahead RX12 6 2 none) (x1 : Int32) (M : Mem) : BL p l e (rmL 2) s m args below meth c LY D cy ad 6 (QV LY D cy ad) 334 [(0, .ref (ad 0)), (1, .int x1)] [] M (fX12_ahead_334 n0 x1 M) := by
  unfold fX12_ahead_334
  refine b_aload_n hO dX12_ahead_334 0 rfl rfl ?_
  refine b_iload_n hO dX12_ahead_335 1 rfl rfl ?_
  refine b_putI hO flX12_26 kLY_0 rfl rfl rfl (id := 5) rfl dX12_ahead_336 ?_
  exact b_vret hO dX12_ahead_339
theorem tbX12_ahead_204 (n0 : Nat) (hO : OKc p (rmL 2) s m args meth c LY D cy ad cX12_ahead RX12 6 2 none) (k204 : Int32 → Int32 → Int32 → Int32 → Int32 → Mem → Option (Mem)) (hk204 : ∀ (x1 : Int32) (x2 : Int32) (x3 : Int32) (x4 : Int32) (x5 : Int32) (M : Mem), BL p l e (rmL 2) s m args below meth c LY D cy ad 6 (QV LY D cy ad) 204 [(0, .ref (ad 0)), (1, .int x1), (2, .int x2), (3, .int x3), (4, .int x4), (5, .int x5)] [] M (k204 x1 x2 x3 x4 x5 M)) (x1 : Int32) (x2 : Int32) (x3 : Int32) (x4 : Int32) (x5 : Int32) (M : Mem) : BL p l e (rmL 2) s m args below meth c LY D cy ad 6 (QV LY D cy ad) 204 [(0, .ref (ad 0)), (1, .int x1), (2, .int x2), (3, .int x3), (4, .int x4), (5, .int x5)] [] M (bX12_ahead_204 n0 k204 x1 x2 x3 x4 x5 M) := by
  unfold bX12_ahead_204
  refine b_iload_n hO dX12_ahead_204 1 rfl rfl ?_
  refine b_aload_n hO dX12_ahead_205 0 rfl rfl ?_
  refine b_get hO flX12_17 kLY_0 (v := .int (gI _ 2)) rfl dX12_ahead_206 ?_
  refine b_icmp_ge hO dX12_ahead_209 (tgt := 334) (by decide) ?_ ?_
  · refine b_sub [0, 1] rfl ?_
    exact tfX12_ahead_334 n0 hO _ _
  · refine b_iload_n hO dX12_ahead_212 2 rfl rfl ?_
    refine b_if_eq hO dX12_ahead_213 (tgt := 231) (by decide) ?_ ?_
    · refine b_aload_n hO dX12_ahead_231 0 rfl rfl ?_
      refine b_get hO flX12_7 kLY_0 (v := .ref (ad 1)) rfl dX12_ahead_232 ?_
      refine b_iload_n hO dX12_ahead_235 1 rfl rfl ?_
      refine b_iald hO kLY_1 (n := 1800) rfl dX12_ahead_236 ?_
      refine b_callSI hO mdX12_isDigit w1481 w1480 (As := [.int _]) (st := []) (ctX12_isDigit n0 hO.2.2.2.2.2.2.1 _ _) (Nat.le_of_ble_eq_true rfl) rfl rfl (Nat.le_of_ble_eq_true rfl) dX12_ahead_237 (fun z237 => ?_)
      refine b_if_eq hO dX12_ahead_240 (tgt := 334) (by decide) ?_ ?_
      · refine b_sub [0, 1] rfl ?_
        exact tfX12_ahead_334 n0 hO _ _
      · exact tfX12_ahead_243 n0 hO k204 hk204 _ _ _ _ _ _
    · refine b_aload_n hO dX12_ahead_216 0 rfl rfl ?_
      refine b_get hO flX12_7 kLY_0 (v := .ref (ad 1)) rfl dX12_ahead_217 ?_
      refine b_iload_n hO dX12_ahead_220 1 rfl rfl ?_
      refine b_iald hO kLY_1 (n := 1800) rfl dX12_ahead_221 ?_
      refine b_callSI hO mdX12_isLetter w1478 w1477 (As := [.int _]) (st := []) (ctX12_isLetter n0 hO.2.2.2.2.2.2.1 _ _) (Nat.le_of_ble_eq_true rfl) rfl rfl (Nat.le_of_ble_eq_true rfl) dX12_ahead_222 (fun z222 => ?_)
      refine b_if_eq hO dX12_ahead_225 (tgt := 334) (by decide) ?_ ?_
      · refine b_sub [0, 1] rfl ?_
        exact tfX12_ahead_334 n0 hO _ _
      · refine b_goto hO dX12_ahead_228 (tgt := 243) (by decide) ?_
        exact tfX12_ahead_243 n0 hO k204 hk204 _ _ _ _ _ _
theorem lX12_ahead_204 (n0 : Nat) (hO : OKc p (rmL 2) s m args meth c LY D cy ad cX12_ahead RX12 6 2 none) : ∀ (w : Nat) (x1 : Int32) (x2 : Int32) (x3 : Int32) (x4 : Int32) (x5 : Int32) (M : Mem), BL p l e (rmL 2) s m args below meth c LY D cy ad 6 (QV LY D cy ad) 204 [(0, .ref (ad 0)), (1, .int x1), (2, .int x2), (3, .int x3), (4, .int x4), (5, .int x5)] [] M (loopN (bX12_ahead_204 n0) (fun _ _ _ _ _ _ => none) w x1 x2 x3 x4 x5 M) := by
  intro w
  induction w with
  | zero =>
    intros
    exact b_none
  | succ w ih =>
    intro x1 x2 x3 x4 x5 M
    exact tbX12_ahead_204 n0 hO _ ih x1 x2 x3 x4 x5 M
theorem tfX12_ahead_204 (n0 : Nat) (hO : OKc p (rmL 2) s m args meth c LY D cy ad cX12_ahead RX12 6 2 none) (x1 : Int32) (x2 : Int32) (x3 : Int32) (x4 : Int32) (x5 : Int32) (M : Mem) : BL p l e (rmL 2) s m args below meth c LY D cy ad 6 (QV LY D cy ad) 204 [(0, .ref (ad 0)), (1, .int x1), (2, .int x2), (3, .int x3), (4, .int x4), (5, .int x5)] [] M (fX12_ahead_204 n0 x1 x2 x3 x4 x5 M) := lX12_ahead_204 n0 hO n0 x1 x2 x3 x4 x5 M
theorem tfX12_ahead_199 (n0 : Nat) (hO : OKc p (rmL 2) s m args meth c LY D cy ad cX12_ahead RX12 6 2 none) (x1 : Int32) (x2 : Int32) (x3 : Int32) (u0 : Int32) (M : Mem) : BL p l e (rmL 2) s m args below meth c LY D cy ad 6 (QV LY D cy ad) 199 [(0, .ref (ad 0)), (1, .int x1), (2, .int x2), (3, .int x3)] [.int u0] M (fX12_ahead_199 n0 x1 x2 x3 u0 M) := by
  unfold fX12_ahead_199
  refine b_istore hO dX12_ahead_199 (by decide) (lv' := [(4, .int _), (0, .ref _), (1, .int _), (2, .int _), (3, .int _)]) rfl ?_
  refine b_iconst hO dX12_ahead_201 ic_i_0 ?_
  refine b_istore hO dX12_ahead_202 (by decide) (lv' := [(5, .int _), (4, .int _), (0, .ref _), (1, .int _), (2, .int _), (3, .int _)]) rfl ?_
  refine b_sub [2, 3, 4, 5, 1, 0] rfl ?_
  exact tfX12_ahead_204 n0 hO _ _ _ _ _ _
theorem tfX12_ahead_186 (n0 : Nat) (hO : OKc p (rmL 2) s m args meth c LY D cy ad cX12_ahead RX12 6 2 none) (x1 : Int32) (x2 : Int32) (x3 : Int32) (u1 : Int32) (M : Mem) : BL p l e (rmL 2) s m args below meth c LY D cy ad 6 (QV LY D cy ad) 186 [(0, .ref (ad 0)), (1, .int x1), (2, .int x2), (3, .int x3)] [.int u1, .ref (ad 0)] M (fX12_ahead_186 n0 x1 x2 x3 u1 M) := by
  unfold fX12_ahead_186
  refine b_putI hO flX12_20 kLY_0 rfl rfl rfl (id := 3) rfl dX12_ahead_186 ?_
  refine b_bnd (fun M186 => ?_)
  refine b_iload_n hO dX12_ahead_189 2 rfl rfl ?_
  refine b_if_eq hO dX12_ahead_190 (tgt := 198) (by decide) ?_ ?_
  · refine b_iconst hO dX12_ahead_198 ic_i_4 ?_
    exact tfX12_ahead_199 n0 hO _ _ _ _ _
  · refine b_bipush hO dX12_ahead_193 ic_b_6 ?_
    refine b_goto hO dX12_ahead_195 (tgt := 199) (by decide) ?_
    exact tfX12_ahead_199 n0 hO _ _ _ _ _
theorem tfX12_ahead_176 (n0 : Nat) (hO : OKc p (rmL 2) s m args meth c LY D cy ad cX12_ahead RX12 6 2 none) (x1 : Int32) (x2 : Int32) (x3 : Int32) (M : Mem) : BL p l e (rmL 2) s m args below meth c LY D cy ad 6 (QV LY D cy ad) 176 [(0, .ref (ad 0)), (1, .int x1), (2, .int x2), (3, .int x3)] [] M (fX12_ahead_176 n0 x1 x2 x3 M) := by
  unfold fX12_ahead_176
  refine b_aload_n hO dX12_ahead_176 0 rfl rfl ?_
  refine b_iload_n hO dX12_ahead_177 2 rfl rfl ?_
  refine b_if_eq hO dX12_ahead_178 (tgt := 185) (by decide) ?_ ?_
  · refine b_iconst hO dX12_ahead_185 ic_i_2 ?_
    exact tfX12_ahead_186 n0 hO _ _ _ _ _
  · refine b_iconst hO dX12_ahead_181 ic_i_1 ?_
    refine b_goto hO dX12_ahead_182 (tgt := 186) (by decide) ?_
    exact tfX12_ahead_186 n0 hO _ _ _ _ _
theorem tfX12_ahead_135 (n0 : Nat) (hO : OKc p (rmL 2) s m args meth c LY D cy ad cX12_ahead RX12 6 2 none) (x1 : Int32) (x2 : Int32) (x3 : Int32) (M : Mem) : BL p l e (rmL 2) s m args below meth c LY D cy ad 6 (QV LY D cy ad) 135 [(0, .ref (ad 0)), (1, .int x1), (2, .int x2), (3, .int x3)] [] M (fX12_ahead_135 n0 x1 x2 x3 M) := by
  unfold fX12_ahead_135
  refine b_aload_n hO dX12_ahead_135 0 rfl rfl ?_
  refine b_iconst hO dX12_ahead_136 ic_i_0 ?_
  refine b_putI hO flX12_29 kLY_0 rfl rfl rfl (id := 6) rfl dX12_ahead_137 ?_
  refine b_bnd (fun M137 => ?_)
  refine b_aload_n hO dX12_ahead_140 0 rfl rfl ?_
  refine b_lconst hO dX12_ahead_141 (v := 0) rfl ?_
  refine b_putL hO flX12_32 kLY_0 rfl rfl rfl (id := 7) rfl dX12_ahead_142 ?_
  refine b_bnd (fun M142 => ?_)
  refine b_aload_n hO dX12_ahead_145 0 rfl rfl ?_
  refine b_iconst hO dX12_ahead_146 ic_i_3 ?_
  refine b_putI hO flX12_20 kLY_0 rfl rfl rfl (id := 3) rfl dX12_ahead_147 ?_
  refine b_bnd (fun M147 => ?_)
  refine b_aload_n hO dX12_ahead_150 0 rfl rfl ?_
  refine b_iload_n hO dX12_ahead_151 1 rfl rfl ?_
  refine b_iconst hO dX12_ahead_152 ic_i_1 ?_
  refine b_iadd hO dX12_ahead_153 ?_
  refine b_putI hO flX12_26 kLY_0 rfl rfl rfl (id := 5) rfl dX12_ahead_154 ?_
  refine b_bnd (fun M154 => ?_)
  refine b_iload_n hO dX12_ahead_157 2 rfl rfl ?_
  refine b_if_ne hO dX12_ahead_158 (tgt := 176) (by decide) ?_ ?_
  · exact tfX12_ahead_176 n0 hO _ _ _ _
  · refine b_iload_n hO dX12_ahead_161 3 rfl rfl ?_
    refine b_if_ne hO dX12_ahead_162 (tgt := 176) (by decide) ?_ ?_
    · exact tfX12_ahead_176 n0 hO _ _ _ _
    · refine b_aload_n hO dX12_ahead_165 0 rfl rfl ?_
      refine b_aload_n hO dX12_ahead_166 0 rfl rfl ?_
      refine b_get hO flX12_7 kLY_0 (v := .ref (ad 1)) rfl dX12_ahead_167 ?_
      refine b_iload_n hO dX12_ahead_170 1 rfl rfl ?_
      refine b_iald hO kLY_1 (n := 1800) rfl dX12_ahead_171 ?_
      refine b_putI hO flX12_29 kLY_0 rfl rfl rfl (id := 6) rfl dX12_ahead_172 ?_
      exact b_vret hO dX12_ahead_175
theorem tfX12_ahead_130 (n0 : Nat) (hO : OKc p (rmL 2) s m args meth c LY D cy ad cX12_ahead RX12 6 2 none) (x1 : Int32) (x2 : Int32) (x3 : Int32) (M : Mem) : BL p l e (rmL 2) s m args below meth c LY D cy ad 6 (QV LY D cy ad) 130 [(0, .ref (ad 0)), (1, .int x1), (2, .int x2), (3, .int x3)] [] M (fX12_ahead_130 n0 x1 x2 x3 M) := by
  unfold fX12_ahead_130
  refine b_aload_n hO dX12_ahead_130 0 rfl rfl ?_
  refine b_iload_n hO dX12_ahead_131 1 rfl rfl ?_
  refine b_putI hO flX12_48 kLY_0 rfl rfl rfl (id := 12) rfl dX12_ahead_132 ?_
  exact tfX12_ahead_135 n0 hO _ _ _ _
theorem tfX12_ahead_98 (n0 : Nat) (hO : OKc p (rmL 2) s m args meth c LY D cy ad cX12_ahead RX12 6 2 none) (x1 : Int32) (x2 : Int32) (x3 : Int32) (M : Mem) : BL p l e (rmL 2) s m args below meth c LY D cy ad 6 (QV LY D cy ad) 98 [(0, .ref (ad 0)), (1, .int x1), (2, .int x2), (3, .int x3)] [] M (fX12_ahead_98 n0 x1 x2 x3 M) := by
  unfold fX12_ahead_98
  refine b_iload_n hO dX12_ahead_98 1 rfl rfl ?_
  refine b_if_le hO dX12_ahead_99 (tgt := 135) (by decide) ?_ ?_
  · exact tfX12_ahead_135 n0 hO _ _ _ _
  · refine b_aload_n hO dX12_ahead_102 0 rfl rfl ?_
    refine b_get hO flX12_7 kLY_0 (v := .ref (ad 1)) rfl dX12_ahead_103 ?_
    refine b_iload_n hO dX12_ahead_106 1 rfl rfl ?_
    refine b_iconst hO dX12_ahead_107 ic_i_1 ?_
    refine b_isub hO dX12_ahead_108 ?_
    refine b_iald hO kLY_1 (n := 1800) rfl dX12_ahead_109 ?_
    refine b_callSI hO mdX12_isLetter w1478 w1477 (As := [.int _]) (st := []) (ctX12_isLetter n0 hO.2.2.2.2.2.2.1 _ _) (Nat.le_of_ble_eq_true rfl) rfl rfl (Nat.le_of_ble_eq_true rfl) dX12_ahead_110 (fun z110 => ?_)
    refine b_if_ne hO dX12_ahead_113 (tgt := 130) (by decide) ?_ ?_
    · exact tfX12_ahead_130 n0 hO _ _ _ _
    · refine b_aload_n hO dX12_ahead_116 0 rfl rfl ?_
      refine b_get hO flX12_7 kLY_0 (v := .ref (ad 1)) rfl dX12_ahead_117 ?_
      refine b_iload_n hO dX12_ahead_120 1 rfl rfl ?_
      refine b_iconst hO dX12_ahead_121 ic_i_1 ?_
      refine b_isub hO dX12_ahead_122 ?_
      refine b_iald hO kLY_1 (n := 1800) rfl dX12_ahead_123 ?_
      refine b_callSI hO mdX12_isDigit w1481 w1480 (As := [.int _]) (st := []) (ctX12_isDigit n0 hO.2.2.2.2.2.2.1 _ _) (Nat.le_of_ble_eq_true rfl) rfl rfl (Nat.le_of_ble_eq_true rfl) dX12_ahead_124 (fun z124 => ?_)
      refine b_if_eq hO dX12_ahead_127 (tgt := 135) (by decide) ?_ ?_
      · exact tfX12_ahead_135 n0 hO _ _ _ _
      · exact tfX12_ahead_130 n0 hO _ _ _ _
theorem tfX12_ahead_41 (n0 : Nat) (hO : OKc p (rmL 2) s m args meth c LY D cy ad cX12_ahead RX12 6 2 none) (x1 : Int32) (M : Mem) : BL p l e (rmL 2) s m args below meth c LY D cy ad 6 (QV LY D cy ad) 41 [(0, .ref (ad 0)), (1, .int x1)] [] M (fX12_ahead_41 n0 x1 M) := by
  unfold fX12_ahead_41
  refine b_aload_n hO dX12_ahead_41 0 rfl rfl ?_
  refine b_iload_n hO dX12_ahead_42 1 rfl rfl ?_
  refine b_putI hO flX12_23 kLY_0 rfl rfl rfl (id := 4) rfl dX12_ahead_43 ?_
  refine b_bnd (fun M43 => ?_)
  refine b_aload_n hO dX12_ahead_46 0 rfl rfl ?_
  refine b_iload_n hO dX12_ahead_47 1 rfl rfl ?_
  refine b_putI hO flX12_26 kLY_0 rfl rfl rfl (id := 5) rfl dX12_ahead_48 ?_
  refine b_bnd (fun M48 => ?_)
  refine b_aload_n hO dX12_ahead_51 0 rfl rfl ?_
  refine b_iconst hO dX12_ahead_52 ic_i_0 ?_
  refine b_putI hO flX12_20 kLY_0 rfl rfl rfl (id := 3) rfl dX12_ahead_53 ?_
  refine b_bnd (fun M53 => ?_)
  refine b_aload_n hO dX12_ahead_56 0 rfl rfl ?_
  refine b_iconst hO dX12_ahead_57 ic_i_m1 ?_
  refine b_putI hO flX12_48 kLY_0 rfl rfl rfl (id := 12) rfl dX12_ahead_58 ?_
  refine b_bnd (fun M58 => ?_)
  refine b_iload_n hO dX12_ahead_61 1 rfl rfl ?_
  refine b_aload_n hO dX12_ahead_62 0 rfl rfl ?_
  refine b_get hO flX12_17 kLY_0 (v := .int (gI _ 2)) rfl dX12_ahead_63 ?_
  refine b_icmp_lt hO dX12_ahead_66 (tgt := 70) (by decide) ?_ ?_
  · refine b_aload_n hO dX12_ahead_70 0 rfl rfl ?_
    refine b_get hO flX12_7 kLY_0 (v := .ref (ad 1)) rfl dX12_ahead_71 ?_
    refine b_iload_n hO dX12_ahead_74 1 rfl rfl ?_
    refine b_iald hO kLY_1 (n := 1800) rfl dX12_ahead_75 ?_
    refine b_callSI hO mdX12_isLetter w1478 w1477 (As := [.int _]) (st := []) (ctX12_isLetter n0 hO.2.2.2.2.2.2.1 _ _) (Nat.le_of_ble_eq_true rfl) rfl rfl (Nat.le_of_ble_eq_true rfl) dX12_ahead_76 (fun z76 => ?_)
    refine b_istore_n hO dX12_ahead_79 rfl (by decide) (lv' := [(2, .int _), (0, .ref _), (1, .int _)]) rfl ?_
    refine b_aload_n hO dX12_ahead_80 1 rfl rfl ?_
    refine b_get hO flX12_7 kLY_0 (v := .ref (ad 1)) rfl dX12_ahead_81 ?_
    refine b_iload_n hO dX12_ahead_84 2 rfl rfl ?_
    refine b_iald hO kLY_1 (n := 1800) rfl dX12_ahead_85 ?_
    refine b_callSI hO mdX12_isDigit w1481 w1480 (As := [.int _]) (st := []) (ctX12_isDigit n0 hO.2.2.2.2.2.2.1 _ _) (Nat.le_of_ble_eq_true rfl) rfl rfl (Nat.le_of_ble_eq_true rfl) dX12_ahead_86 (fun z86 => ?_)
    refine b_istore_n hO dX12_ahead_89 rfl (by decide) (lv' := [(3, .int _), (2, .int _), (0, .ref _), (1, .int _)]) rfl ?_
    refine b_iload_n hO dX12_ahead_90 1 rfl rfl ?_
    refine b_if_ne hO dX12_ahead_91 (tgt := 98) (by decide) ?_ ?_
    · refine b_sub [2, 3, 1, 0] rfl ?_
      exact tfX12_ahead_98 n0 hO _ _ _ _
    · refine b_iload_n hO dX12_ahead_94 0 rfl rfl ?_
      refine b_if_eq hO dX12_ahead_95 (tgt := 135) (by decide) ?_ ?_
      · refine b_sub [2, 3, 1, 0] rfl ?_
        exact tfX12_ahead_135 n0 hO _ _ _ _
      · refine b_sub [2, 3, 1, 0] rfl ?_
        exact tfX12_ahead_98 n0 hO _ _ _ _
  · exact b_vret hO dX12_ahead_69
theorem tbX12_ahead_5 (n0 : Nat) (hO : OKc p (rmL 2) s m args meth c LY D cy ad cX12_ahead RX12 6 2 none) (k5 : Int32 → Mem → Option (Mem)) (hk5 : ∀ (x1 : Int32) (M : Mem), BL p l e (rmL 2) s m args below meth c LY D cy ad 6 (QV LY D cy ad) 5 [(0, .ref (ad 0)), (1, .int x1)] [] M (k5 x1 M)) (x1 : Int32) (M : Mem) : BL p l e (rmL 2) s m args below meth c LY D cy ad 6 (QV LY D cy ad) 5 [(0, .ref (ad 0)), (1, .int x1)] [] M (bX12_ahead_5 n0 k5 x1 M) := by
  unfold bX12_ahead_5
  refine b_iload_n hO dX12_ahead_5 1 rfl rfl ?_
  refine b_aload_n hO dX12_ahead_6 0 rfl rfl ?_
  refine b_get hO flX12_17 kLY_0 (v := .int (gI _ 2)) rfl dX12_ahead_7 ?_
  refine b_icmp_ge hO dX12_ahead_10 (tgt := 41) (by decide) ?_ ?_
  · exact tfX12_ahead_41 n0 hO _ _
  · refine b_aload_n hO dX12_ahead_13 0 rfl rfl ?_
    refine b_get hO flX12_7 kLY_0 (v := .ref (ad 1)) rfl dX12_ahead_14 ?_
    refine b_iload_n hO dX12_ahead_17 1 rfl rfl ?_
    refine b_iald hO kLY_1 (n := 1800) rfl dX12_ahead_18 ?_
    refine b_bipush hO dX12_ahead_19 ic_b_32 ?_
    refine b_icmp_eq hO dX12_ahead_21 (tgt := 35) (by decide) ?_ ?_
    · exact tfX12_ahead_35 n0 hO k5 hk5 _ _
    · refine b_aload_n hO dX12_ahead_24 0 rfl rfl ?_
      refine b_get hO flX12_7 kLY_0 (v := .ref (ad 1)) rfl dX12_ahead_25 ?_
      refine b_iload_n hO dX12_ahead_28 1 rfl rfl ?_
      refine b_iald hO kLY_1 (n := 1800) rfl dX12_ahead_29 ?_
      refine b_bipush hO dX12_ahead_30 ic_b_10 ?_
      refine b_icmp_ne hO dX12_ahead_32 (tgt := 41) (by decide) ?_ ?_
      · exact tfX12_ahead_41 n0 hO _ _
      · exact tfX12_ahead_35 n0 hO k5 hk5 _ _
theorem lX12_ahead_5 (n0 : Nat) (hO : OKc p (rmL 2) s m args meth c LY D cy ad cX12_ahead RX12 6 2 none) : ∀ (w : Nat) (x1 : Int32) (M : Mem), BL p l e (rmL 2) s m args below meth c LY D cy ad 6 (QV LY D cy ad) 5 [(0, .ref (ad 0)), (1, .int x1)] [] M (loopN (bX12_ahead_5 n0) (fun _ _ => none) w x1 M) := by
  intro w
  induction w with
  | zero =>
    intros
    exact b_none
  | succ w ih =>
    intro x1 M
    exact tbX12_ahead_5 n0 hO _ ih x1 M
theorem tfX12_ahead_5 (n0 : Nat) (hO : OKc p (rmL 2) s m args meth c LY D cy ad cX12_ahead RX12 6 2 none) (x1 : Int32) (M : Mem) : BL p l e (rmL 2) s m args below meth c LY D cy ad 6 (QV LY D cy ad) 5 [(0, .ref (ad 0)), (1, .int x1)] [] M (fX12_ahead_5 n0 x1 M) := lX12_ahead_5 n0 hO n0 x1 M
theorem tfX12_ahead (n0 : Nat) (hO : OKc p (rmL 2) s m args meth c LY D cy ad cX12_ahead RX12 6 2 none) (M : Mem) : BL p l e (rmL 2) s m args below meth c LY D cy ad 6 (QV LY D cy ad) 0 [(0, .ref (ad 0))] [] M (fX12_ahead n0 M) := by
  unfold fX12_ahead
  refine b_aload_n hO dX12_ahead_0 0 rfl rfl ?_
  refine b_get hO flX12_26 kLY_0 (v := .int (gI _ 5)) rfl dX12_ahead_1 ?_
  refine b_topI (fun x1_4 => ?_)
  refine b_istore_n hO dX12_ahead_4 rfl (by decide) (lv' := [(1, .int _), (0, .ref _)]) rfl ?_
  refine b_sub [1, 0] rfl ?_
  exact tfX12_ahead_5 n0 hO _ _
theorem ctX12_ahead (n0 : Nat) (hI : Inj LY ad) (M : Mem) : CT l LY D cy ad yX12_ahead cX12_ahead 6 none 2 (QV LY D cy ad) [.ref (ad 0)] M (fX12_ahead n0 M) :=
  CT.mk LYok hI (by decide) (Nat.le_of_ble_eq_true rfl) (fun hO => tfX12_ahead n0 hO M)
/-! X12_isSign -/
def fX12_isSign (n0 : Nat) (x1 : Int32) (M : Mem) : Option (Int32 × Mem) :=
  if (gI M 3) = (3 : Int32) then
    if (gI M 6) = x1 then
      some ((1 : Int32), M)
    else
      some ((0 : Int32), M)
  else
    some ((0 : Int32), M)
theorem tfX12_isSign (n0 : Nat) (hO : OKc p (rmL 1) s m args meth c LY D cy ad cX12_isSign RX12 2 1 (some .boolean)) (x1 : Int32) (M : Mem) : BL p l e (rmL 1) s m args below meth c LY D cy ad 2 (QI LY D cy ad) 0 [(0, .ref (ad 0)), (1, .int x1)] [] M (fX12_isSign n0 x1 M) := by
  unfold fX12_isSign
  refine b_aload_n hO dX12_isSign_0 0 rfl rfl ?_
  refine b_get hO flX12_20 kLY_0 (v := .int (gI _ 3)) rfl dX12_isSign_1 ?_
  refine b_iconst hO dX12_isSign_4 ic_i_3 ?_
  refine b_icmp_ne hO dX12_isSign_5 (tgt := 20) (by decide) ?_ ?_
  · refine b_iconst hO dX12_isSign_20 ic_i_0 ?_
    exact b_zretc hO (Or.inl rfl) dX12_isSign_21
  · refine b_aload_n hO dX12_isSign_8 0 rfl rfl ?_
    refine b_get hO flX12_29 kLY_0 (v := .int (gI _ 6)) rfl dX12_isSign_9 ?_
    refine b_iload_n hO dX12_isSign_12 1 rfl rfl ?_
    refine b_icmp_ne hO dX12_isSign_13 (tgt := 20) (by decide) ?_ ?_
    · refine b_iconst hO dX12_isSign_20 ic_i_0 ?_
      exact b_zretc hO (Or.inl rfl) dX12_isSign_21
    · refine b_iconst hO dX12_isSign_16 ic_i_1 ?_
      refine b_goto hO dX12_isSign_17 (tgt := 21) (by decide) ?_
      exact b_zretc hO (Or.inr rfl) dX12_isSign_21
theorem ctX12_isSign (n0 : Nat) (hI : Inj LY ad) (x1 : Int32) (M : Mem) : CT l LY D cy ad yX12_isSign cX12_isSign 2 (some .boolean) 1 (QI LY D cy ad) [.ref (ad 0), .int x1] M (fX12_isSign n0 x1 M) :=
  CT.mk LYok hI (by decide) (Nat.le_of_ble_eq_true rfl) (fun hO => tfX12_isSign n0 hO x1 M)
/-! X12_isWord -/
def fX12_isWord (n0 : Nat) (y1 : Int64) (M : Mem) : Option (Int32 × Mem) :=
  if (gI M 3) = (1 : Int32) then
    if (lg_cmp (gL M 7) y1) = 0 then
      some ((1 : Int32), M)
    else
      some ((0 : Int32), M)
  else
    some ((0 : Int32), M)
theorem tfX12_isWord (n0 : Nat) (hO : OKc p (rmL 1) s m args meth c LY D cy ad cX12_isWord RX12 3 1 (some .boolean)) (y1 : Int64) (M : Mem) : BL p l e (rmL 1) s m args below meth c LY D cy ad 3 (QI LY D cy ad) 0 [(0, .ref (ad 0)), (1, .long y1)] [] M (fX12_isWord n0 y1 M) := by
  unfold fX12_isWord
  refine b_aload_n hO dX12_isWord_0 0 rfl rfl ?_
  refine b_get hO flX12_20 kLY_0 (v := .int (gI _ 3)) rfl dX12_isWord_1 ?_
  refine b_iconst hO dX12_isWord_4 ic_i_1 ?_
  refine b_icmp_ne hO dX12_isWord_5 (tgt := 21) (by decide) ?_ ?_
  · refine b_iconst hO dX12_isWord_21 ic_i_0 ?_
    exact b_zretc hO (Or.inl rfl) dX12_isWord_22
  · refine b_aload_n hO dX12_isWord_8 0 rfl rfl ?_
    refine b_get hO flX12_32 kLY_0 (v := .long (gL _ 7)) rfl dX12_isWord_9 ?_
    refine b_lload_n hO dX12_isWord_12 1 rfl rfl ?_
    refine b_lcmp hO dX12_isWord_13 ?_
    refine b_if_ne hO dX12_isWord_14 (tgt := 21) (by decide) ?_ ?_
    · refine b_iconst hO dX12_isWord_21 ic_i_0 ?_
      exact b_zretc hO (Or.inl rfl) dX12_isWord_22
    · refine b_iconst hO dX12_isWord_17 ic_i_1 ?_
      refine b_goto hO dX12_isWord_18 (tgt := 22) (by decide) ?_
      exact b_zretc hO (Or.inr rfl) dX12_isWord_22
theorem ctX12_isWord (n0 : Nat) (hI : Inj LY ad) (y1 : Int64) (M : Mem) : CT l LY D cy ad yX12_isWord cX12_isWord 3 (some .boolean) 1 (QI LY D cy ad) [.ref (ad 0), .long y1] M (fX12_isWord n0 y1 M) :=
  CT.mk LYok hI (by decide) (Nat.le_of_ble_eq_true rfl) (fun hO => tfX12_isWord n0 hO y1 M)
/-! X12_must -/
def fX12_must_21 (n0 : Nat) (M : Mem) : Option (Mem) :=
  if (gI M 8) = 0 then
    (fX12_ahead n0 M).bind fun z29 =>
    some z29
  else
    some M
def fX12_must (n0 : Nat) (x1 : Int32) (M : Mem) : Option (Mem) :=
  (fX12_lex n0 M).bind fun z1 =>
  (fX12_isSign n0 x1 z1).bind fun z6 =>
  if z6.1 = 0 then
    (fX12_blame n0 (1 : Int32) (gI z6.2 4) z6.2).bind fun z18 =>
    fX12_must_21 n0 z18
  else
    fX12_must_21 n0 z6.2
theorem tfX12_must_21 (n0 : Nat) (hO : OKc p (rmL 3) s m args meth c LY D cy ad cX12_must RX12 2 3 none) (M : Mem) : BL p l e (rmL 3) s m args below meth c LY D cy ad 2 (QV LY D cy ad) 21 [(0, .ref (ad 0))] [] M (fX12_must_21 n0 M) := by
  unfold fX12_must_21
  refine b_aload_n hO dX12_must_21 0 rfl rfl ?_
  refine b_get hO flX12_36 kLY_0 (v := .int (gI _ 8)) rfl dX12_must_22 ?_
  refine b_if_ne hO dX12_must_25 (tgt := 32) (by decide) ?_ ?_
  · exact b_vret hO dX12_must_32
  · refine b_aload_n hO dX12_must_28 0 rfl rfl ?_
    refine b_callVV hO mdX12_ahead mvX12_ahead w1473 (ci := 12) rfl rfl (by decide) kLY_0 (As := []) (st := []) (ctX12_ahead n0 hO.2.2.2.2.2.2.1 _) (Nat.le_of_ble_eq_true rfl) rfl rfl (Nat.le_of_ble_eq_true rfl) dX12_must_29 (fun z29 => ?_)
    exact b_vret hO dX12_must_32
theorem tfX12_must (n0 : Nat) (hO : OKc p (rmL 3) s m args meth c LY D cy ad cX12_must RX12 2 3 none) (x1 : Int32) (M : Mem) : BL p l e (rmL 3) s m args below meth c LY D cy ad 2 (QV LY D cy ad) 0 [(0, .ref (ad 0)), (1, .int x1)] [] M (fX12_must n0 x1 M) := by
  unfold fX12_must
  refine b_aload_n hO dX12_must_0 0 rfl rfl ?_
  refine b_callVV hO mdX12_lex mvX12_lex w1487 (ci := 12) rfl rfl (by decide) kLY_0 (As := []) (st := []) (ctX12_lex n0 hO.2.2.2.2.2.2.1 _) (Nat.le_of_ble_eq_true rfl) rfl rfl (Nat.le_of_ble_eq_true rfl) dX12_must_1 (fun z1 => ?_)
  refine b_aload_n hO dX12_must_4 0 rfl rfl ?_
  refine b_iload_n hO dX12_must_5 1 rfl rfl ?_
  refine b_callVI hO mdX12_isSign mvX12_isSign w1609 (ci := 12) rfl rfl (by decide) kLY_0 (As := [.int _]) (st := []) (ctX12_isSign n0 hO.2.2.2.2.2.2.1 _ _) (Nat.le_of_ble_eq_true rfl) rfl rfl (Nat.le_of_ble_eq_true rfl) dX12_must_6 (fun z6 => ?_)
  refine b_if_ne hO dX12_must_9 (tgt := 21) (by decide) ?_ ?_
  · refine b_sub [0] rfl ?_
    exact tfX12_must_21 n0 hO _
  · refine b_aload_n hO dX12_must_12 0 rfl rfl ?_
    refine b_iconst hO dX12_must_13 ic_i_1 ?_
    refine b_aload_n hO dX12_must_14 0 rfl rfl ?_
    refine b_get hO flX12_23 kLY_0 (v := .int (gI _ 4)) rfl dX12_must_15 ?_
    refine b_callVV hO mdX12_blame mvX12_blame w1491 (ci := 12) rfl rfl (by decide) kLY_0 (As := [.int _, .int _]) (st := []) (ctX12_blame n0 hO.2.2.2.2.2.2.1 _ _ _) (Nat.le_of_ble_eq_true rfl) rfl rfl (Nat.le_of_ble_eq_true rfl) dX12_must_18 (fun z18 => ?_)
    refine b_sub [0] rfl ?_
    exact tfX12_must_21 n0 hO _
theorem ctX12_must (n0 : Nat) (hI : Inj LY ad) (x1 : Int32) (M : Mem) : CT l LY D cy ad yX12_must cX12_must 2 none 3 (QV LY D cy ad) [.ref (ad 0), .int x1] M (fX12_must n0 x1 M) :=
  CT.mk LYok hI (by decide) (Nat.le_of_ble_eq_true rfl) (fun hO => tfX12_must n0 hO x1 M)
/-! X12_isOwn -/
def fX12_isOwn (n0 : Nat) (y1 : Int64) (M : Mem) : Option (Int32 × Mem) :=
  if (lg_cmp y1 (499967946343 : Int64)) = 0 then
    some ((1 : Int32), M)
  else
    if (lg_cmp y1 (512802514792 : Int64)) = 0 then
      some ((1 : Int32), M)
    else
      if (lg_cmp y1 (465491424371 : Int64)) = 0 then
        some ((1 : Int32), M)
      else
        if (lg_cmp y1 (109330312357234 : Int64)) = 0 then
          some ((1 : Int32), M)
        else
          if (lg_cmp y1 (1919902052 : Int64)) = 0 then
            some ((1 : Int32), M)
          else
            if (lg_cmp y1 (29807 : Int64)) = 0 then
              some ((1 : Int32), M)
            else
              if (lg_cmp y1 (495874044019 : Int64)) = 0 then
                some ((1 : Int32), M)
              else
                if (lg_cmp y1 (1885432941 : Int64)) = 0 then
                  some ((1 : Int32), M)
                else
                  if (lg_cmp y1 (6840691 : Int64)) = 0 then
                    some ((1 : Int32), M)
                  else
                    if (lg_cmp y1 (431365910119 : Int64)) = 0 then
                      some ((1 : Int32), M)
                    else
                      if (lg_cmp y1 (24948 : Int64)) = 0 then
                        some ((1 : Int32), M)
                      else
                        if (lg_cmp y1 (1752135026 : Int64)) = 0 then
                          some ((1 : Int32), M)
                        else
                          if (lg_cmp y1 (1935767923 : Int64)) = 0 then
                            some ((1 : Int32), M)
                          else
                            if (lg_cmp y1 (1735356005 : Int64)) = 0 then
                              some ((1 : Int32), M)
                            else
                              if (lg_cmp y1 (1885434739 : Int64)) = 0 then
                                some ((1 : Int32), M)
                              else
                                if (lg_cmp y1 (1751477348 : Int64)) = 0 then
                                  some ((1 : Int32), M)
                                else
                                  if (lg_cmp y1 (120299592184933 : Int64)) = 0 then
                                    some ((1 : Int32), M)
                                  else
                                    if (lg_cmp y1 (435627783289 : Int64)) = 0 then
                                      some ((1 : Int32), M)
                                    else
                                      if (lg_cmp y1 (26982 : Int64)) = 0 then
                                        some ((1 : Int32), M)
                                      else
                                        if (lg_cmp y1 (28530 : Int64)) = 0 then
                                          some ((1 : Int32), M)
                                        else
                                          if (lg_cmp y1 (6385252 : Int64)) = 0 then
                                            some ((1 : Int32), M)
                                          else
                                            if (lg_cmp y1 (7237492 : Int64)) = 0 then
                                              some ((1 : Int32), M)
                                            else
                                              if (lg_cmp y1 (6384748 : Int64)) = 0 then
                                                some ((1 : Int32), M)
                                              else
                                                if (lg_cmp y1 (7170414 : Int64)) = 0 then
                                                  some ((1 : Int32), M)
                                                else
                                                  if (lg_cmp y1 (7168376 : Int64)) = 0 then
                                                    some ((1 : Int32), M)
                                                  else
                                                    some ((0 : Int32), M)
theorem tfX12_isOwn (n0 : Nat) (hO : OKc p (rmL 1) s m args meth c LY D cy ad cX12_isOwn RX12 3 1 (some .boolean)) (y1 : Int64) (M : Mem) : BL p l e (rmL 1) s m args below meth c LY D cy ad 3 (QI LY D cy ad) 0 [(0, .ref (ad 0)), (1, .long y1)] [] M (fX12_isOwn n0 y1 M) := by
  unfold fX12_isOwn
  refine b_lload_n hO dX12_isOwn_0 1 rfl rfl ?_
  refine b_ldc2 hO w1495 dX12_isOwn_1 ?_
  refine b_lcmp hO dX12_isOwn_4 ?_
  refine b_if_eq hO dX12_isOwn_5 (tgt := 40) (by decide) ?_ ?_
  · refine b_iconst hO dX12_isOwn_40 ic_i_1 ?_
    exact b_zretc hO (Or.inr rfl) dX12_isOwn_41
  · refine b_lload_n hO dX12_isOwn_8 1 rfl rfl ?_
    refine b_ldc2 hO w1516 dX12_isOwn_9 ?_
    refine b_lcmp hO dX12_isOwn_12 ?_
    refine b_if_eq hO dX12_isOwn_13 (tgt := 40) (by decide) ?_ ?_
    · refine b_iconst hO dX12_isOwn_40 ic_i_1 ?_
      exact b_zretc hO (Or.inr rfl) dX12_isOwn_41
    · refine b_lload_n hO dX12_isOwn_16 1 rfl rfl ?_
      refine b_ldc2 hO w1517 dX12_isOwn_17 ?_
      refine b_lcmp hO dX12_isOwn_20 ?_
      refine b_if_eq hO dX12_isOwn_21 (tgt := 40) (by decide) ?_ ?_
      · refine b_iconst hO dX12_isOwn_40 ic_i_1 ?_
        exact b_zretc hO (Or.inr rfl) dX12_isOwn_41
      · refine b_lload_n hO dX12_isOwn_24 1 rfl rfl ?_
        refine b_ldc2 hO w1518 dX12_isOwn_25 ?_
        refine b_lcmp hO dX12_isOwn_28 ?_
        refine b_if_eq hO dX12_isOwn_29 (tgt := 40) (by decide) ?_ ?_
        · refine b_iconst hO dX12_isOwn_40 ic_i_1 ?_
          exact b_zretc hO (Or.inr rfl) dX12_isOwn_41
        · refine b_lload_n hO dX12_isOwn_32 1 rfl rfl ?_
          refine b_ldc2 hO w1519 dX12_isOwn_33 ?_
          refine b_lcmp hO dX12_isOwn_36 ?_
          refine b_if_ne hO dX12_isOwn_37 (tgt := 42) (by decide) ?_ ?_
          · refine b_lload_n hO dX12_isOwn_42 1 rfl rfl ?_
            refine b_ldc2 hO w1520 dX12_isOwn_43 ?_
            refine b_lcmp hO dX12_isOwn_46 ?_
            refine b_if_eq hO dX12_isOwn_47 (tgt := 82) (by decide) ?_ ?_
            · refine b_iconst hO dX12_isOwn_82 ic_i_1 ?_
              exact b_zretc hO (Or.inr rfl) dX12_isOwn_83
            · refine b_lload_n hO dX12_isOwn_50 1 rfl rfl ?_
              refine b_ldc2 hO w1521 dX12_isOwn_51 ?_
              refine b_lcmp hO dX12_isOwn_54 ?_
              refine b_if_eq hO dX12_isOwn_55 (tgt := 82) (by decide) ?_ ?_
              · refine b_iconst hO dX12_isOwn_82 ic_i_1 ?_
                exact b_zretc hO (Or.inr rfl) dX12_isOwn_83
              · refine b_lload_n hO dX12_isOwn_58 1 rfl rfl ?_
                refine b_ldc2 hO w1522 dX12_isOwn_59 ?_
                refine b_lcmp hO dX12_isOwn_62 ?_
                refine b_if_eq hO dX12_isOwn_63 (tgt := 82) (by decide) ?_ ?_
                · refine b_iconst hO dX12_isOwn_82 ic_i_1 ?_
                  exact b_zretc hO (Or.inr rfl) dX12_isOwn_83
                · refine b_lload_n hO dX12_isOwn_66 1 rfl rfl ?_
                  refine b_ldc2 hO w1523 dX12_isOwn_67 ?_
                  refine b_lcmp hO dX12_isOwn_70 ?_
                  refine b_if_eq hO dX12_isOwn_71 (tgt := 82) (by decide) ?_ ?_
                  · refine b_iconst hO dX12_isOwn_82 ic_i_1 ?_
                    exact b_zretc hO (Or.inr rfl) dX12_isOwn_83
                  · refine b_lload_n hO dX12_isOwn_74 1 rfl rfl ?_
                    refine b_ldc2 hO w1524 dX12_isOwn_75 ?_
                    refine b_lcmp hO dX12_isOwn_78 ?_
                    refine b_if_ne hO dX12_isOwn_79 (tgt := 84) (by decide) ?_ ?_
                    · refine b_lload_n hO dX12_isOwn_84 1 rfl rfl ?_
                      refine b_ldc2 hO w1525 dX12_isOwn_85 ?_
                      refine b_lcmp hO dX12_isOwn_88 ?_
                      refine b_if_eq hO dX12_isOwn_89 (tgt := 124) (by decide) ?_ ?_
                      · refine b_iconst hO dX12_isOwn_124 ic_i_1 ?_
                        exact b_zretc hO (Or.inr rfl) dX12_isOwn_125
                      · refine b_lload_n hO dX12_isOwn_92 1 rfl rfl ?_
                        refine b_ldc2 hO w1526 dX12_isOwn_93 ?_
                        refine b_lcmp hO dX12_isOwn_96 ?_
                        refine b_if_eq hO dX12_isOwn_97 (tgt := 124) (by decide) ?_ ?_
                        · refine b_iconst hO dX12_isOwn_124 ic_i_1 ?_
                          exact b_zretc hO (Or.inr rfl) dX12_isOwn_125
                        · refine b_lload_n hO dX12_isOwn_100 1 rfl rfl ?_
                          refine b_ldc2 hO w1527 dX12_isOwn_101 ?_
                          refine b_lcmp hO dX12_isOwn_104 ?_
                          refine b_if_eq hO dX12_isOwn_105 (tgt := 124) (by decide) ?_ ?_
                          · refine b_iconst hO dX12_isOwn_124 ic_i_1 ?_
                            exact b_zretc hO (Or.inr rfl) dX12_isOwn_125
                          · refine b_lload_n hO dX12_isOwn_108 1 rfl rfl ?_
                            refine b_ldc2 hO w1528 dX12_isOwn_109 ?_
                            refine b_lcmp hO dX12_isOwn_112 ?_
                            refine b_if_eq hO dX12_isOwn_113 (tgt := 124) (by decide) ?_ ?_
                            · refine b_iconst hO dX12_isOwn_124 ic_i_1 ?_
                              exact b_zretc hO (Or.inr rfl) dX12_isOwn_125
                            · refine b_lload_n hO dX12_isOwn_116 1 rfl rfl ?_
                              refine b_ldc2 hO w1529 dX12_isOwn_117 ?_
                              refine b_lcmp hO dX12_isOwn_120 ?_
                              refine b_if_ne hO dX12_isOwn_121 (tgt := 126) (by decide) ?_ ?_
                              · refine b_lload_n hO dX12_isOwn_126 1 rfl rfl ?_
                                refine b_ldc2 hO w1530 dX12_isOwn_127 ?_
                                refine b_lcmp hO dX12_isOwn_130 ?_
                                refine b_if_eq hO dX12_isOwn_131 (tgt := 166) (by decide) ?_ ?_
                                · refine b_iconst hO dX12_isOwn_166 ic_i_1 ?_
                                  exact b_zretc hO (Or.inr rfl) dX12_isOwn_167
                                · refine b_lload_n hO dX12_isOwn_134 1 rfl rfl ?_
                                  refine b_ldc2 hO w1531 dX12_isOwn_135 ?_
                                  refine b_lcmp hO dX12_isOwn_138 ?_
                                  refine b_if_eq hO dX12_isOwn_139 (tgt := 166) (by decide) ?_ ?_
                                  · refine b_iconst hO dX12_isOwn_166 ic_i_1 ?_
                                    exact b_zretc hO (Or.inr rfl) dX12_isOwn_167
                                  · refine b_lload_n hO dX12_isOwn_142 1 rfl rfl ?_
                                    refine b_ldc2 hO w1532 dX12_isOwn_143 ?_
                                    refine b_lcmp hO dX12_isOwn_146 ?_
                                    refine b_if_eq hO dX12_isOwn_147 (tgt := 166) (by decide) ?_ ?_
                                    · refine b_iconst hO dX12_isOwn_166 ic_i_1 ?_
                                      exact b_zretc hO (Or.inr rfl) dX12_isOwn_167
                                    · refine b_lload_n hO dX12_isOwn_150 1 rfl rfl ?_
                                      refine b_ldc2 hO w1533 dX12_isOwn_151 ?_
                                      refine b_lcmp hO dX12_isOwn_154 ?_
                                      refine b_if_eq hO dX12_isOwn_155 (tgt := 166) (by decide) ?_ ?_
                                      · refine b_iconst hO dX12_isOwn_166 ic_i_1 ?_
                                        exact b_zretc hO (Or.inr rfl) dX12_isOwn_167
                                      · refine b_lload_n hO dX12_isOwn_158 1 rfl rfl ?_
                                        refine b_ldc2 hO w1534 dX12_isOwn_159 ?_
                                        refine b_lcmp hO dX12_isOwn_162 ?_
                                        refine b_if_ne hO dX12_isOwn_163 (tgt := 168) (by decide) ?_ ?_
                                        · refine b_lload_n hO dX12_isOwn_168 1 rfl rfl ?_
                                          refine b_ldc2 hO w1535 dX12_isOwn_169 ?_
                                          refine b_lcmp hO dX12_isOwn_172 ?_
                                          refine b_if_eq hO dX12_isOwn_173 (tgt := 208) (by decide) ?_ ?_
                                          · refine b_iconst hO dX12_isOwn_208 ic_i_1 ?_
                                            exact b_zretc hO (Or.inr rfl) dX12_isOwn_209
                                          · refine b_lload_n hO dX12_isOwn_176 1 rfl rfl ?_
                                            refine b_ldc2 hO w1536 dX12_isOwn_177 ?_
                                            refine b_lcmp hO dX12_isOwn_180 ?_
                                            refine b_if_eq hO dX12_isOwn_181 (tgt := 208) (by decide) ?_ ?_
                                            · refine b_iconst hO dX12_isOwn_208 ic_i_1 ?_
                                              exact b_zretc hO (Or.inr rfl) dX12_isOwn_209
                                            · refine b_lload_n hO dX12_isOwn_184 1 rfl rfl ?_
                                              refine b_ldc2 hO w1537 dX12_isOwn_185 ?_
                                              refine b_lcmp hO dX12_isOwn_188 ?_
                                              refine b_if_eq hO dX12_isOwn_189 (tgt := 208) (by decide) ?_ ?_
                                              · refine b_iconst hO dX12_isOwn_208 ic_i_1 ?_
                                                exact b_zretc hO (Or.inr rfl) dX12_isOwn_209
                                              · refine b_lload_n hO dX12_isOwn_192 1 rfl rfl ?_
                                                refine b_ldc2 hO w1538 dX12_isOwn_193 ?_
                                                refine b_lcmp hO dX12_isOwn_196 ?_
                                                refine b_if_eq hO dX12_isOwn_197 (tgt := 208) (by decide) ?_ ?_
                                                · refine b_iconst hO dX12_isOwn_208 ic_i_1 ?_
                                                  exact b_zretc hO (Or.inr rfl) dX12_isOwn_209
                                                · refine b_lload_n hO dX12_isOwn_200 1 rfl rfl ?_
                                                  refine b_ldc2 hO w1539 dX12_isOwn_201 ?_
                                                  refine b_lcmp hO dX12_isOwn_204 ?_
                                                  refine b_if_ne hO dX12_isOwn_205 (tgt := 210) (by decide) ?_ ?_
                                                  · refine b_iconst hO dX12_isOwn_210 ic_i_0 ?_
                                                    exact b_zretc hO (Or.inl rfl) dX12_isOwn_211
                                                  · refine b_iconst hO dX12_isOwn_208 ic_i_1 ?_
                                                    exact b_zretc hO (Or.inr rfl) dX12_isOwn_209
                                        · refine b_iconst hO dX12_isOwn_166 ic_i_1 ?_
                                          exact b_zretc hO (Or.inr rfl) dX12_isOwn_167
                              · refine b_iconst hO dX12_isOwn_124 ic_i_1 ?_
                                exact b_zretc hO (Or.inr rfl) dX12_isOwn_125
                    · refine b_iconst hO dX12_isOwn_82 ic_i_1 ?_
                      exact b_zretc hO (Or.inr rfl) dX12_isOwn_83
          · refine b_iconst hO dX12_isOwn_40 ic_i_1 ?_
            exact b_zretc hO (Or.inr rfl) dX12_isOwn_41
theorem ctX12_isOwn (n0 : Nat) (hI : Inj LY ad) (y1 : Int64) (M : Mem) : CT l LY D cy ad yX12_isOwn cX12_isOwn 3 (some .boolean) 1 (QI LY D cy ad) [.ref (ad 0), .long y1] M (fX12_isOwn n0 y1 M) :=
  CT.mk LYok hI (by decide) (Nat.le_of_ble_eq_true rfl) (fun hO => tfX12_isOwn n0 hO y1 M)
/-! X12_manyOf -/
def fX12_manyOf (n0 : Nat) (x1 : Int32) (x2 : Int32) (M : Mem) : Option (Int32 × Mem) :=
  if x2 = 0 then
    if oob x1 2 then none else
    some ((gA M 2 (Int32.toNatClampNeg x1)), M)
  else
    if x2 = (1 : Int32) then
      if oob x1 2 then none else
      some ((gA M 5 (Int32.toNatClampNeg x1)), M)
    else
      if oob x1 2 then none else
      some ((gA M 10 (Int32.toNatClampNeg x1)), M)
theorem tfX12_manyOf (n0 : Nat) (hO : OKc p (rmL 1) s m args meth c LY D cy ad cX12_manyOf RX12 3 1 (some .int)) (x1 : Int32) (x2 : Int32) (M : Mem) : BL p l e (rmL 1) s m args below meth c LY D cy ad 3 (QI LY D cy ad) 0 [(0, .ref (ad 0)), (1, .int x1), (2, .int x2)] [] M (fX12_manyOf n0 x1 x2 M) := by
  unfold fX12_manyOf
  refine b_iload_n hO dX12_manyOf_0 2 rfl rfl ?_
  refine b_if_ne hO dX12_manyOf_1 (tgt := 13) (by decide) ?_ ?_
  · refine b_iload_n hO dX12_manyOf_13 2 rfl rfl ?_
    refine b_iconst hO dX12_manyOf_14 ic_i_1 ?_
    refine b_icmp_ne hO dX12_manyOf_15 (tgt := 27) (by decide) ?_ ?_
    · refine b_aload_n hO dX12_manyOf_27 0 rfl rfl ?_
      refine b_get hO flX12_78 kLY_0 (v := .ref (ad 10)) rfl dX12_manyOf_28 ?_
      refine b_iload_n hO dX12_manyOf_31 1 rfl rfl ?_
      refine b_iald hO kLY_10 (n := 2) rfl dX12_manyOf_32 ?_
      exact b_iret hO dX12_manyOf_33
    · refine b_aload_n hO dX12_manyOf_18 0 rfl rfl ?_
      refine b_get hO flX12_63 kLY_0 (v := .ref (ad 5)) rfl dX12_manyOf_19 ?_
      refine b_iload_n hO dX12_manyOf_22 1 rfl rfl ?_
      refine b_iald hO kLY_5 (n := 2) rfl dX12_manyOf_23 ?_
      refine b_goto hO dX12_manyOf_24 (tgt := 33) (by decide) ?_
      exact b_iret hO dX12_manyOf_33
  · refine b_aload_n hO dX12_manyOf_4 0 rfl rfl ?_
    refine b_get hO flX12_54 kLY_0 (v := .ref (ad 2)) rfl dX12_manyOf_5 ?_
    refine b_iload_n hO dX12_manyOf_8 1 rfl rfl ?_
    refine b_iald hO kLY_2 (n := 2) rfl dX12_manyOf_9 ?_
    refine b_goto hO dX12_manyOf_10 (tgt := 33) (by decide) ?_
    exact b_iret hO dX12_manyOf_33
theorem ctX12_manyOf (n0 : Nat) (hI : Inj LY ad) (x1 : Int32) (x2 : Int32) (M : Mem) : CT l LY D cy ad yX12_manyOf cX12_manyOf 3 (some .int) 1 (QI LY D cy ad) [.ref (ad 0), .int x1, .int x2] M (fX12_manyOf n0 x1 x2 M) :=
  CT.mk LYok hI (by decide) (Nat.le_of_ble_eq_true rfl) (fun hO => tfX12_manyOf n0 hO x1 x2 M)
/-! X12_nameOf -/
def fX12_nameOf (n0 : Nat) (x1 : Int32) (x2 : Int32) (x3 : Int32) (M : Mem) : Option (Int64 × Mem) :=
  if x2 = 0 then
    if oob (((6 : Int32) * x1) + x3) 12 then none else
    some ((gB M 18 (Int32.toNatClampNeg (((6 : Int32) * x1) + x3))), M)
  else
    if x2 = (1 : Int32) then
      if oob (((5 : Int32) * x1) + x3) 10 then none else
      some ((gB M 19 (Int32.toNatClampNeg (((5 : Int32) * x1) + x3))), M)
    else
      if oob (((6 : Int32) * x1) + x3) 12 then none else
      some ((gB M 20 (Int32.toNatClampNeg (((6 : Int32) * x1) + x3))), M)
theorem tfX12_nameOf (n0 : Nat) (hO : OKc p (rmL 1) s m args meth c LY D cy ad cX12_nameOf RX12 4 1 (some .long)) (x1 : Int32) (x2 : Int32) (x3 : Int32) (M : Mem) : BL p l e (rmL 1) s m args below meth c LY D cy ad 4 (QL LY D cy ad) 0 [(0, .ref (ad 0)), (1, .int x1), (2, .int x2), (3, .int x3)] [] M (fX12_nameOf n0 x1 x2 x3 M) := by
  unfold fX12_nameOf
  refine b_iload_n hO dX12_nameOf_0 2 rfl rfl ?_
  refine b_if_ne hO dX12_nameOf_1 (tgt := 18) (by decide) ?_ ?_
  · refine b_iload_n hO dX12_nameOf_18 2 rfl rfl ?_
    refine b_iconst hO dX12_nameOf_19 ic_i_1 ?_
    refine b_icmp_ne hO dX12_nameOf_20 (tgt := 36) (by decide) ?_ ?_
    · refine b_aload_n hO dX12_nameOf_36 0 rfl rfl ?_
      refine b_get hO flX12_109 kLY_0 (v := .ref (ad 20)) rfl dX12_nameOf_37 ?_
      refine b_bipush hO dX12_nameOf_40 ic_b_6 ?_
      refine b_iload_n hO dX12_nameOf_42 1 rfl rfl ?_
      refine b_imul hO dX12_nameOf_43 ?_
      refine b_iload_n hO dX12_nameOf_44 3 rfl rfl ?_
      refine b_iadd hO dX12_nameOf_45 ?_
      refine b_lald hO kLY_20 (n := 12) rfl dX12_nameOf_46 ?_
      exact b_lret hO dX12_nameOf_47
    · refine b_aload_n hO dX12_nameOf_23 0 rfl rfl ?_
      refine b_get hO flX12_106 kLY_0 (v := .ref (ad 19)) rfl dX12_nameOf_24 ?_
      refine b_iconst hO dX12_nameOf_27 ic_i_5 ?_
      refine b_iload_n hO dX12_nameOf_28 1 rfl rfl ?_
      refine b_imul hO dX12_nameOf_29 ?_
      refine b_iload_n hO dX12_nameOf_30 3 rfl rfl ?_
      refine b_iadd hO dX12_nameOf_31 ?_
      refine b_lald hO kLY_19 (n := 10) rfl dX12_nameOf_32 ?_
      refine b_goto hO dX12_nameOf_33 (tgt := 47) (by decide) ?_
      exact b_lret hO dX12_nameOf_47
  · refine b_aload_n hO dX12_nameOf_4 0 rfl rfl ?_
    refine b_get hO flX12_102 kLY_0 (v := .ref (ad 18)) rfl dX12_nameOf_5 ?_
    refine b_bipush hO dX12_nameOf_8 ic_b_6 ?_
    refine b_iload_n hO dX12_nameOf_10 1 rfl rfl ?_
    refine b_imul hO dX12_nameOf_11 ?_
    refine b_iload_n hO dX12_nameOf_12 3 rfl rfl ?_
    refine b_iadd hO dX12_nameOf_13 ?_
    refine b_lald hO kLY_18 (n := 12) rfl dX12_nameOf_14 ?_
    refine b_goto hO dX12_nameOf_15 (tgt := 47) (by decide) ?_
    exact b_lret hO dX12_nameOf_47
theorem ctX12_nameOf (n0 : Nat) (hI : Inj LY ad) (x1 : Int32) (x2 : Int32) (x3 : Int32) (M : Mem) : CT l LY D cy ad yX12_nameOf cX12_nameOf 4 (some .long) 1 (QL LY D cy ad) [.ref (ad 0), .int x1, .int x2, .int x3] M (fX12_nameOf n0 x1 x2 x3 M) :=
  CT.mk LYok hI (by decide) (Nat.le_of_ble_eq_true rfl) (fun hO => tfX12_nameOf n0 hO x1 x2 x3 M)
/-! X12_named -/
def bX12_named_3 (n0 : Nat) (k3 : Int32 → Int64 → Int32 → Mem → Option (Int32 × Mem)) (x1 : Int32) (y2 : Int64) (x4 : Int32) (M : Mem) : Option (Int32 × Mem) :=
  (fX12_manyOf n0 (gI M 34) x1 M).bind fun z11 =>
  if z11.1 ≤ x4 then
    some ((-1 : Int32), z11.2)
  else
    (fX12_nameOf n0 (gI z11.2 34) x1 x4 z11.2).bind fun z25 =>
    if (lg_cmp z25.1 y2) = 0 then
      some (x4, z25.2)
    else
      k3 x1 y2 (x4 + (1 : Int32)) z25.2
def fX12_named_3 (n0 : Nat) : Int32 → Int64 → Int32 → Mem → Option (Int32 × Mem) := loopN (bX12_named_3 n0) (fun _ _ _ _ => none) n0
def fX12_named (n0 : Nat) (x1 : Int32) (y2 : Int64) (M : Mem) : Option (Int32 × Mem) :=
  fX12_named_3 n0 x1 y2 (0 : Int32) M
theorem tbX12_named_3 (n0 : Nat) (hO : OKc p (rmL 2) s m args meth c LY D cy ad cX12_named RX12 5 2 (some .int)) (k3 : Int32 → Int64 → Int32 → Mem → Option (Int32 × Mem)) (hk3 : ∀ (x1 : Int32) (y2 : Int64) (x4 : Int32) (M : Mem), BL p l e (rmL 2) s m args below meth c LY D cy ad 5 (QI LY D cy ad) 3 [(0, .ref (ad 0)), (1, .int x1), (2, .long y2), (4, .int x4)] [] M (k3 x1 y2 x4 M)) (x1 : Int32) (y2 : Int64) (x4 : Int32) (M : Mem) : BL p l e (rmL 2) s m args below meth c LY D cy ad 5 (QI LY D cy ad) 3 [(0, .ref (ad 0)), (1, .int x1), (2, .long y2), (4, .int x4)] [] M (bX12_named_3 n0 k3 x1 y2 x4 M) := by
  unfold bX12_named_3
  refine b_iload hO dX12_named_3 3 rfl ?_
  refine b_aload_n hO dX12_named_5 0 rfl rfl ?_
  refine b_aload_n hO dX12_named_6 0 rfl rfl ?_
  refine b_get hO flX12_115 kLY_0 (v := .int (gI _ 34)) rfl dX12_named_7 ?_
  refine b_iload_n hO dX12_named_10 1 rfl rfl ?_
  refine b_callVI hO mdX12_manyOf mvX12_manyOf w1544 (ci := 12) rfl rfl (by decide) kLY_0 (As := [.int _, .int _]) (st := [.int _]) (ctX12_manyOf n0 hO.2.2.2.2.2.2.1 _ _ _) (Nat.le_of_ble_eq_true rfl) rfl rfl (Nat.le_of_ble_eq_true rfl) dX12_named_11 (fun z11 => ?_)
  refine b_icmp_ge hO dX12_named_14 (tgt := 42) (by decide) ?_ ?_
  · refine b_iconst hO dX12_named_42 ic_i_m1 ?_
    exact b_iret hO dX12_named_43
  · refine b_aload_n hO dX12_named_17 0 rfl rfl ?_
    refine b_aload_n hO dX12_named_18 0 rfl rfl ?_
    refine b_get hO flX12_115 kLY_0 (v := .int (gI _ 34)) rfl dX12_named_19 ?_
    refine b_iload_n hO dX12_named_22 1 rfl rfl ?_
    refine b_iload hO dX12_named_23 3 rfl ?_
    refine b_callVL hO mdX12_nameOf mvX12_nameOf w1548 (ci := 12) rfl rfl (by decide) kLY_0 (As := [.int _, .int _, .int _]) (st := []) (ctX12_nameOf n0 hO.2.2.2.2.2.2.1 _ _ _ _) (Nat.le_of_ble_eq_true rfl) rfl rfl (Nat.le_of_ble_eq_true rfl) dX12_named_25 (fun z25 => ?_)
    refine b_lload_n hO dX12_named_28 2 rfl rfl ?_
    refine b_lcmp hO dX12_named_29 ?_
    refine b_if_ne hO dX12_named_30 (tgt := 36) (by decide) ?_ ?_
    · refine b_iinc hO dX12_named_36 3 rfl ic_i_1 (by decide) (lv' := [(4, .int _), (0, .ref _), (1, .int _), (2, .long _)]) rfl ?_
      refine b_goto hO dX12_named_39 (tgt := 3) (by decide) ?_
      refine b_sub [1, 2, 3, 0] rfl ?_
      exact hk3 _ _ _ _
    · refine b_iload hO dX12_named_33 3 rfl ?_
      exact b_iret hO dX12_named_35
theorem lX12_named_3 (n0 : Nat) (hO : OKc p (rmL 2) s m args meth c LY D cy ad cX12_named RX12 5 2 (some .int)) : ∀ (w : Nat) (x1 : Int32) (y2 : Int64) (x4 : Int32) (M : Mem), BL p l e (rmL 2) s m args below meth c LY D cy ad 5 (QI LY D cy ad) 3 [(0, .ref (ad 0)), (1, .int x1), (2, .long y2), (4, .int x4)] [] M (loopN (bX12_named_3 n0) (fun _ _ _ _ => none) w x1 y2 x4 M) := by
  intro w
  induction w with
  | zero =>
    intros
    exact b_none
  | succ w ih =>
    intro x1 y2 x4 M
    exact tbX12_named_3 n0 hO _ ih x1 y2 x4 M
theorem tfX12_named_3 (n0 : Nat) (hO : OKc p (rmL 2) s m args meth c LY D cy ad cX12_named RX12 5 2 (some .int)) (x1 : Int32) (y2 : Int64) (x4 : Int32) (M : Mem) : BL p l e (rmL 2) s m args below meth c LY D cy ad 5 (QI LY D cy ad) 3 [(0, .ref (ad 0)), (1, .int x1), (2, .long y2), (4, .int x4)] [] M (fX12_named_3 n0 x1 y2 x4 M) := lX12_named_3 n0 hO n0 x1 y2 x4 M
theorem tfX12_named (n0 : Nat) (hO : OKc p (rmL 2) s m args meth c LY D cy ad cX12_named RX12 5 2 (some .int)) (x1 : Int32) (y2 : Int64) (M : Mem) : BL p l e (rmL 2) s m args below meth c LY D cy ad 5 (QI LY D cy ad) 0 [(0, .ref (ad 0)), (1, .int x1), (2, .long y2)] [] M (fX12_named n0 x1 y2 M) := by
  unfold fX12_named
  refine b_iconst hO dX12_named_0 ic_i_0 ?_
  refine b_istore hO dX12_named_1 (by decide) (lv' := [(4, .int _), (0, .ref _), (1, .int _), (2, .long _)]) rfl ?_
  refine b_sub [1, 2, 3, 0] rfl ?_
  exact tfX12_named_3 n0 hO _ _ _ _
theorem ctX12_named (n0 : Nat) (hI : Inj LY ad) (x1 : Int32) (y2 : Int64) (M : Mem) : CT l LY D cy ad yX12_named cX12_named 5 (some .int) 2 (QI LY D cy ad) [.ref (ad 0), .int x1, .long y2] M (fX12_named n0 x1 y2 M) :=
  CT.mk LYok hI (by decide) (Nat.le_of_ble_eq_true rfl) (fun hO => tfX12_named n0 hO x1 y2 M)
/-! X12_number -/
def fX12_number_58 (n0 : Nat) (M : Mem) : Option (Int32 × Mem) :=
  bnd (gI M 6) fun x3_62 =>
  if (gI M 8) = 0 then
    (fX12_ahead n0 M).bind fun z71 =>
    some (x3_62, z71)
  else
    some (x3_62, M)
def fX12_number_30 (n0 : Nat) (x1 : Int32) (x2 : Int32) (M : Mem) : Option (Int32 × Mem) :=
  if (gI M 8) = 0 then
    (fX12_is n0 (gI M 6) x1 x2 M).bind fun z43 =>
    if z43.1 = 0 then
      (fX12_blame n0 (4 : Int32) (gI z43.2 4) z43.2).bind fun z55 =>
      fX12_number_58 n0 z55
    else
      fX12_number_58 n0 z43.2
  else
    fX12_number_58 n0 M
def fX12_number (n0 : Nat) (x1 : Int32) (x2 : Int32) (M : Mem) : Option (Int32 × Mem) :=
  (fX12_lex n0 M).bind fun z1 =>
  if (gI z1 8) ≤ 0 then
    if (gI z1 3) = (2 : Int32) then
      fX12_number_30 n0 x1 x2 z1
    else
      (fX12_blame n0 (1 : Int32) (gI z1 4) z1).bind fun z27 =>
      fX12_number_30 n0 x1 x2 z27
  else
    some ((0 : Int32), z1)
theorem tfX12_number_58 (n0 : Nat) (hO : OKc p (rmL 3) s m args meth c LY D cy ad cX12_number RX12 4 3 (some .int)) (M : Mem) : BL p l e (rmL 3) s m args below meth c LY D cy ad 4 (QI LY D cy ad) 58 [(0, .ref (ad 0))] [] M (fX12_number_58 n0 M) := by
  unfold fX12_number_58
  refine b_aload_n hO dX12_number_58 0 rfl rfl ?_
  refine b_get hO flX12_29 kLY_0 (v := .int (gI _ 6)) rfl dX12_number_59 ?_
  refine b_topI (fun x3_62 => ?_)
  refine b_istore_n hO dX12_number_62 rfl (by decide) (lv' := [(3, .int _), (0, .ref _)]) rfl ?_
  refine b_aload_n hO dX12_number_63 1 rfl rfl ?_
  refine b_get hO flX12_36 kLY_0 (v := .int (gI _ 8)) rfl dX12_number_64 ?_
  refine b_if_ne hO dX12_number_67 (tgt := 74) (by decide) ?_ ?_
  · refine b_iload_n hO dX12_number_74 0 rfl rfl ?_
    exact b_iret hO dX12_number_75
  · refine b_aload_n hO dX12_number_70 1 rfl rfl ?_
    refine b_callVV hO mdX12_ahead mvX12_ahead w1473 (ci := 12) rfl rfl (by decide) kLY_0 (As := []) (st := []) (ctX12_ahead n0 hO.2.2.2.2.2.2.1 _) (Nat.le_of_ble_eq_true rfl) rfl rfl (Nat.le_of_ble_eq_true rfl) dX12_number_71 (fun z71 => ?_)
    refine b_iload_n hO dX12_number_74 0 rfl rfl ?_
    exact b_iret hO dX12_number_75
theorem tfX12_number_30 (n0 : Nat) (hO : OKc p (rmL 3) s m args meth c LY D cy ad cX12_number RX12 4 3 (some .int)) (x1 : Int32) (x2 : Int32) (M : Mem) : BL p l e (rmL 3) s m args below meth c LY D cy ad 4 (QI LY D cy ad) 30 [(0, .ref (ad 0)), (1, .int x1), (2, .int x2)] [] M (fX12_number_30 n0 x1 x2 M) := by
  unfold fX12_number_30
  refine b_aload_n hO dX12_number_30 0 rfl rfl ?_
  refine b_get hO flX12_36 kLY_0 (v := .int (gI _ 8)) rfl dX12_number_31 ?_
  refine b_if_ne hO dX12_number_34 (tgt := 58) (by decide) ?_ ?_
  · refine b_sub [0] rfl ?_
    exact tfX12_number_58 n0 hO _
  · refine b_aload_n hO dX12_number_37 0 rfl rfl ?_
    refine b_get hO flX12_29 kLY_0 (v := .int (gI _ 6)) rfl dX12_number_38 ?_
    refine b_iload_n hO dX12_number_41 1 rfl rfl ?_
    refine b_iload_n hO dX12_number_42 2 rfl rfl ?_
    refine b_callSI hO mdX12_is w1561 w1560 (As := [.int _, .int _, .int _]) (st := []) (ctX12_is n0 hO.2.2.2.2.2.2.1 _ _ _ _) (Nat.le_of_ble_eq_true rfl) rfl rfl (Nat.le_of_ble_eq_true rfl) dX12_number_43 (fun z43 => ?_)
    refine b_if_ne hO dX12_number_46 (tgt := 58) (by decide) ?_ ?_
    · refine b_sub [0] rfl ?_
      exact tfX12_number_58 n0 hO _
    · refine b_aload_n hO dX12_number_49 0 rfl rfl ?_
      refine b_iconst hO dX12_number_50 ic_i_4 ?_
      refine b_aload_n hO dX12_number_51 0 rfl rfl ?_
      refine b_get hO flX12_23 kLY_0 (v := .int (gI _ 4)) rfl dX12_number_52 ?_
      refine b_callVV hO mdX12_blame mvX12_blame w1491 (ci := 12) rfl rfl (by decide) kLY_0 (As := [.int _, .int _]) (st := []) (ctX12_blame n0 hO.2.2.2.2.2.2.1 _ _ _) (Nat.le_of_ble_eq_true rfl) rfl rfl (Nat.le_of_ble_eq_true rfl) dX12_number_55 (fun z55 => ?_)
      refine b_sub [0] rfl ?_
      exact tfX12_number_58 n0 hO _
theorem tfX12_number (n0 : Nat) (hO : OKc p (rmL 3) s m args meth c LY D cy ad cX12_number RX12 4 3 (some .int)) (x1 : Int32) (x2 : Int32) (M : Mem) : BL p l e (rmL 3) s m args below meth c LY D cy ad 4 (QI LY D cy ad) 0 [(0, .ref (ad 0)), (1, .int x1), (2, .int x2)] [] M (fX12_number n0 x1 x2 M) := by
  unfold fX12_number
  refine b_aload_n hO dX12_number_0 0 rfl rfl ?_
  refine b_callVV hO mdX12_lex mvX12_lex w1487 (ci := 12) rfl rfl (by decide) kLY_0 (As := []) (st := []) (ctX12_lex n0 hO.2.2.2.2.2.2.1 _) (Nat.le_of_ble_eq_true rfl) rfl rfl (Nat.le_of_ble_eq_true rfl) dX12_number_1 (fun z1 => ?_)
  refine b_aload_n hO dX12_number_4 0 rfl rfl ?_
  refine b_get hO flX12_36 kLY_0 (v := .int (gI _ 8)) rfl dX12_number_5 ?_
  refine b_if_le hO dX12_number_8 (tgt := 13) (by decide) ?_ ?_
  · refine b_aload_n hO dX12_number_13 0 rfl rfl ?_
    refine b_get hO flX12_20 kLY_0 (v := .int (gI _ 3)) rfl dX12_number_14 ?_
    refine b_iconst hO dX12_number_17 ic_i_2 ?_
    refine b_icmp_eq hO dX12_number_18 (tgt := 30) (by decide) ?_ ?_
    · exact tfX12_number_30 n0 hO _ _ _
    · refine b_aload_n hO dX12_number_21 0 rfl rfl ?_
      refine b_iconst hO dX12_number_22 ic_i_1 ?_
      refine b_aload_n hO dX12_number_23 0 rfl rfl ?_
      refine b_get hO flX12_23 kLY_0 (v := .int (gI _ 4)) rfl dX12_number_24 ?_
      refine b_callVV hO mdX12_blame mvX12_blame w1491 (ci := 12) rfl rfl (by decide) kLY_0 (As := [.int _, .int _]) (st := []) (ctX12_blame n0 hO.2.2.2.2.2.2.1 _ _ _) (Nat.le_of_ble_eq_true rfl) rfl rfl (Nat.le_of_ble_eq_true rfl) dX12_number_27 (fun z27 => ?_)
      exact tfX12_number_30 n0 hO _ _ _
  · refine b_iconst hO dX12_number_11 ic_i_0 ?_
    exact b_iret hO dX12_number_12
theorem ctX12_number (n0 : Nat) (hI : Inj LY ad) (x1 : Int32) (x2 : Int32) (M : Mem) : CT l LY D cy ad yX12_number cX12_number 4 (some .int) 3 (QI LY D cy ad) [.ref (ad 0), .int x1, .int x2] M (fX12_number n0 x1 x2 M) :=
  CT.mk LYok hI (by decide) (Nat.le_of_ble_eq_true rfl) (fun hO => tfX12_number n0 hO x1 x2 M)
/-! X12_add -/
def fX12_add (n0 : Nat) (x1 : Int32) (x2 : Int32) (M : Mem) : Option (Mem) :=
  if oob (((1600 : Int32) * (gI M 34)) + (gI M 33)) 3200 then none else
  bnd (sA M 16 (Int32.toNatClampNeg (((1600 : Int32) * (gI M 34)) + (gI M 33))) x1) fun M18 =>
  if oob (((1600 : Int32) * (gI M18 34)) + (gI M18 33)) 3200 then none else
  bnd (sA M18 17 (Int32.toNatClampNeg (((1600 : Int32) * (gI M18 34)) + (gI M18 33))) x2) fun M37 =>
  some (sI M37 33 ((gI M37 33) + (1 : Int32)))
theorem tfX12_add (n0 : Nat) (hO : OKc p (rmL 1) s m args meth c LY D cy ad cX12_add RX12 3 1 none) (x1 : Int32) (x2 : Int32) (M : Mem) : BL p l e (rmL 1) s m args below meth c LY D cy ad 3 (QV LY D cy ad) 0 [(0, .ref (ad 0)), (1, .int x1), (2, .int x2)] [] M (fX12_add n0 x1 x2 M) := by
  unfold fX12_add
  refine b_aload_n hO dX12_add_0 0 rfl rfl ?_
  refine b_get hO flX12_96 kLY_0 (v := .ref (ad 16)) rfl dX12_add_1 ?_
  refine b_sipush hO dX12_add_4 ic_s_1600 ?_
  refine b_aload_n hO dX12_add_7 0 rfl rfl ?_
  refine b_get hO flX12_115 kLY_0 (v := .int (gI _ 34)) rfl dX12_add_8 ?_
  refine b_imul hO dX12_add_11 ?_
  refine b_aload_n hO dX12_add_12 0 rfl rfl ?_
  refine b_get hO flX12_112 kLY_0 (v := .int (gI _ 33)) rfl dX12_add_13 ?_
  refine b_iadd hO dX12_add_16 ?_
  refine b_iload_n hO dX12_add_17 1 rfl rfl ?_
  refine b_iast hO kLY_16 (n := 3200) rfl dX12_add_18 ?_
  refine b_bnd (fun M18 => ?_)
  refine b_aload_n hO dX12_add_19 0 rfl rfl ?_
  refine b_get hO flX12_99 kLY_0 (v := .ref (ad 17)) rfl dX12_add_20 ?_
  refine b_sipush hO dX12_add_23 ic_s_1600 ?_
  refine b_aload_n hO dX12_add_26 0 rfl rfl ?_
  refine b_get hO flX12_115 kLY_0 (v := .int (gI _ 34)) rfl dX12_add_27 ?_
  refine b_imul hO dX12_add_30 ?_
  refine b_aload_n hO dX12_add_31 0 rfl rfl ?_
  refine b_get hO flX12_112 kLY_0 (v := .int (gI _ 33)) rfl dX12_add_32 ?_
  refine b_iadd hO dX12_add_35 ?_
  refine b_iload_n hO dX12_add_36 2 rfl rfl ?_
  refine b_iast hO kLY_17 (n := 3200) rfl dX12_add_37 ?_
  refine b_bnd (fun M37 => ?_)
  refine b_aload_n hO dX12_add_38 0 rfl rfl ?_
  refine b_dup hO dX12_add_39 rfl ?_
  refine b_get hO flX12_112 kLY_0 (v := .int (gI _ 33)) rfl dX12_add_40 ?_
  refine b_iconst hO dX12_add_43 ic_i_1 ?_
  refine b_iadd hO dX12_add_44 ?_
  refine b_putI hO flX12_112 kLY_0 rfl rfl rfl (id := 33) rfl dX12_add_45 ?_
  exact b_vret hO dX12_add_48
theorem ctX12_add (n0 : Nat) (hI : Inj LY ad) (x1 : Int32) (x2 : Int32) (M : Mem) : CT l LY D cy ad yX12_add cX12_add 3 none 1 (QV LY D cy ad) [.ref (ad 0), .int x1, .int x2] M (fX12_add n0 x1 x2 M) :=
  CT.mk LYok hI (by decide) (Nat.le_of_ble_eq_true rfl) (fun hO => tfX12_add n0 hO x1 x2 M)
/-! X12_rank -/
def fX12_rank (n0 : Nat) (x0 : Int32) (M : Mem) : Option (Int32 × Mem) :=
  if x0 = (42 : Int32) then
    some ((1 : Int32), M)
  else
    if x0 = (41 : Int32) then
      some ((2 : Int32), M)
    else
      if x0 = (43 : Int32) then
        some ((3 : Int32), M)
      else
        if x0 = (38 : Int32) then
          some ((4 : Int32), M)
        else
          if x0 = (39 : Int32) then
            some ((4 : Int32), M)
          else
            if x0 = (40 : Int32) then
              some ((4 : Int32), M)
            else
              if x0 = (31 : Int32) then
                some ((5 : Int32), M)
              else
                if x0 = (32 : Int32) then
                  some ((5 : Int32), M)
                else
                  some ((6 : Int32), M)
theorem tfX12_rank (n0 : Nat) (hO : OKc p (rmL 1) s m args meth c LY D cy ad cX12_rank RX12 1 1 (some .int)) (x0 : Int32) (M : Mem) : BL p l e (rmL 1) s m args below meth c LY D cy ad 1 (QI LY D cy ad) 0 [(0, .int x0)] [] M (fX12_rank n0 x0 M) := by
  unfold fX12_rank
  refine b_iload_n hO dX12_rank_0 0 rfl rfl ?_
  refine b_bipush hO dX12_rank_1 ic_b_42 ?_
  refine b_icmp_ne hO dX12_rank_3 (tgt := 10) (by decide) ?_ ?_
  · refine b_iload_n hO dX12_rank_10 0 rfl rfl ?_
    refine b_bipush hO dX12_rank_11 ic_b_41 ?_
    refine b_icmp_ne hO dX12_rank_13 (tgt := 20) (by decide) ?_ ?_
    · refine b_iload_n hO dX12_rank_20 0 rfl rfl ?_
      refine b_bipush hO dX12_rank_21 ic_b_43 ?_
      refine b_icmp_ne hO dX12_rank_23 (tgt := 30) (by decide) ?_ ?_
      · refine b_iload_n hO dX12_rank_30 0 rfl rfl ?_
        refine b_bipush hO dX12_rank_31 ic_b_38 ?_
        refine b_icmp_eq hO dX12_rank_33 (tgt := 48) (by decide) ?_ ?_
        · refine b_iconst hO dX12_rank_48 ic_i_4 ?_
          refine b_goto hO dX12_rank_49 (tgt := 70) (by decide) ?_
          exact b_iret hO dX12_rank_70
        · refine b_iload_n hO dX12_rank_36 0 rfl rfl ?_
          refine b_bipush hO dX12_rank_37 ic_b_39 ?_
          refine b_icmp_eq hO dX12_rank_39 (tgt := 48) (by decide) ?_ ?_
          · refine b_iconst hO dX12_rank_48 ic_i_4 ?_
            refine b_goto hO dX12_rank_49 (tgt := 70) (by decide) ?_
            exact b_iret hO dX12_rank_70
          · refine b_iload_n hO dX12_rank_42 0 rfl rfl ?_
            refine b_bipush hO dX12_rank_43 ic_b_40 ?_
            refine b_icmp_ne hO dX12_rank_45 (tgt := 52) (by decide) ?_ ?_
            · refine b_iload_n hO dX12_rank_52 0 rfl rfl ?_
              refine b_bipush hO dX12_rank_53 ic_b_31 ?_
              refine b_icmp_eq hO dX12_rank_55 (tgt := 64) (by decide) ?_ ?_
              · refine b_iconst hO dX12_rank_64 ic_i_5 ?_
                refine b_goto hO dX12_rank_65 (tgt := 70) (by decide) ?_
                exact b_iret hO dX12_rank_70
              · refine b_iload_n hO dX12_rank_58 0 rfl rfl ?_
                refine b_bipush hO dX12_rank_59 ic_b_32 ?_
                refine b_icmp_ne hO dX12_rank_61 (tgt := 68) (by decide) ?_ ?_
                · refine b_bipush hO dX12_rank_68 ic_b_6 ?_
                  exact b_iret hO dX12_rank_70
                · refine b_iconst hO dX12_rank_64 ic_i_5 ?_
                  refine b_goto hO dX12_rank_65 (tgt := 70) (by decide) ?_
                  exact b_iret hO dX12_rank_70
            · refine b_iconst hO dX12_rank_48 ic_i_4 ?_
              refine b_goto hO dX12_rank_49 (tgt := 70) (by decide) ?_
              exact b_iret hO dX12_rank_70
      · refine b_iconst hO dX12_rank_26 ic_i_3 ?_
        refine b_goto hO dX12_rank_27 (tgt := 70) (by decide) ?_
        exact b_iret hO dX12_rank_70
    · refine b_iconst hO dX12_rank_16 ic_i_2 ?_
      refine b_goto hO dX12_rank_17 (tgt := 70) (by decide) ?_
      exact b_iret hO dX12_rank_70
  · refine b_iconst hO dX12_rank_6 ic_i_1 ?_
    refine b_goto hO dX12_rank_7 (tgt := 70) (by decide) ?_
    exact b_iret hO dX12_rank_70
theorem ctX12_rank (n0 : Nat) (hI : Inj LY ad) (x0 : Int32) (M : Mem) : CT l LY D cy ad yX12_rank cX12_rank 1 (some .int) 1 (QI LY D cy ad) [.int x0] M (fX12_rank n0 x0 M) :=
  CT.mk LYok hI (by decide) (Nat.le_of_ble_eq_true rfl) (fun hO => tfX12_rank n0 hO x0 M)
end
end
