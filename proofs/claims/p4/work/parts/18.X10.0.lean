section
variable {p : Program} {l : Launch} {e : Env} {s : State} {m : MethodId} {args : Array Value} {below : List Frame} {meth : Method} {c : Code} {D : va_G} {cy : Nat → ClassId} {ad : Nat → Nat} {dd : Nat}

/-! X10_shorten -/
def fX10_shorten (n0 : Nat) (x1 : Int32) (x2 : Int32) (x3 : Int32) (M : Mem) : Option (Mem) :=
  if oob x2 5 then none else
  if oob x1 5 then none else
  if oob x2 5 then none else
  some (sA M 19 (Int32.toNatClampNeg x2) (imin (gA M 19 (Int32.toNatClampNeg x2)) ((gA M 19 (Int32.toNatClampNeg x1)) + x3)))
theorem tfX10_shorten (n0 : Nat) (hO : OKc p (rmL 1) s m args meth c LX D cy ad cX10_shorten RX10 4 1 none) (x1 : Int32) (x2 : Int32) (x3 : Int32) (M : Mem) : BL p l e (rmL 1) s m args below meth c LX D cy ad 4 (QV LX D cy ad) 0 [(0, .ref (ad 18)), (1, .int x1), (2, .int x2), (3, .int x3)] [] M (fX10_shorten n0 x1 x2 x3 M) := by
  unfold fX10_shorten
  refine b_aload_n hO dX10_shorten_0 0 rfl rfl ?_
  refine b_get hO flX10_9 kLX_18 (v := .ref (ad 19)) rfl dX10_shorten_1 ?_
  refine b_iload_n hO dX10_shorten_4 2 rfl rfl ?_
  refine b_aload_n hO dX10_shorten_5 0 rfl rfl ?_
  refine b_get hO flX10_9 kLX_18 (v := .ref (ad 19)) rfl dX10_shorten_6 ?_
  refine b_iload_n hO dX10_shorten_9 2 rfl rfl ?_
  refine b_iald hO kLX_19 (n := 5) rfl dX10_shorten_10 ?_
  refine b_aload_n hO dX10_shorten_11 0 rfl rfl ?_
  refine b_get hO flX10_9 kLX_18 (v := .ref (ad 19)) rfl dX10_shorten_12 ?_
  refine b_iload_n hO dX10_shorten_15 1 rfl rfl ?_
  refine b_iald hO kLX_19 (n := 5) rfl dX10_shorten_16 ?_
  refine b_iload_n hO dX10_shorten_17 3 rfl rfl ?_
  refine b_iadd hO dX10_shorten_18 ?_
  refine b_mmin hO w1063 w591 w136 wm592 (by first | decide | omega) (Nat.le_of_ble_eq_true rfl) dX10_shorten_19 ?_
  refine b_iast hO kLX_19 (n := 5) rfl dX10_shorten_22 ?_
  exact b_vret hO dX10_shorten_23
theorem ctX10_shorten (n0 : Nat) (hI : Inj LX ad) (x1 : Int32) (x2 : Int32) (x3 : Int32) (M : Mem) : CT l LX D cy ad yX10_shorten cX10_shorten 4 none 1 (QV LX D cy ad) [.ref (ad 18), .int x1, .int x2, .int x3] M (fX10_shorten n0 x1 x2 x3 M) :=
  CT.mk LXok hI (by decide) (Nat.le_of_ble_eq_true rfl) (fun hO => tfX10_shorten n0 hO x1 x2 x3 M)
/-! X10_stepsOf -/
def fX10_stepsOf_27 (n0 : Nat) (q1 : Nat) (k3 : Int32 → Int32 → Int32 → Mem → Option (Int32 × Mem)) (x2 : Int32) (x3 : Int32) (x4 : Int32) (u1 : Int32) (u2 : Int32) (M : Mem) : Option (Int32 × Mem) :=
  if oob u1 5 then none else
  bnd (sA M 19 (Int32.toNatClampNeg u1) u2) fun M27 =>
  k3 x2 x3 (x4 + (1 : Int32)) M27
def bX10_stepsOf_49 (n0 : Nat) (q1 : Nat) (k37 : Int32 → Int32 → Mem → Option (Int32 × Mem)) (k49 : Int32 → Int32 → Int32 → Mem → Option (Int32 × Mem)) (x3 : Int32) (x4 : Int32) (x5 : Int32) (M : Mem) : Option (Int32 × Mem) :=
  if (gI M (128 * q1 + 8)) ≤ x5 then
    k37 x3 (x4 + (1 : Int32)) M
  else
    if oob x5 10 then none else
    if oob x5 10 then none else
    if oob x5 10 then none else
    (fX10_shorten n0 (gA M (q1 + 6) (Int32.toNatClampNeg x5)) (gA M (q1 + 7) (Int32.toNatClampNeg x5)) (gA M (q1 + 8) (Int32.toNatClampNeg x5)) M).bind fun z80 =>
    if oob x5 10 then none else
    if oob x5 10 then none else
    if oob x5 10 then none else
    (fX10_shorten n0 (gA z80 (q1 + 7) (Int32.toNatClampNeg x5)) (gA z80 (q1 + 6) (Int32.toNatClampNeg x5)) (gA z80 (q1 + 8) (Int32.toNatClampNeg x5)) z80).bind fun z105 =>
    k49 x3 x4 (x5 + (1 : Int32)) z105
def fX10_stepsOf_49 (n0 : Nat) (q1 : Nat) (k37 : Int32 → Int32 → Mem → Option (Int32 × Mem)) : Int32 → Int32 → Int32 → Mem → Option (Int32 × Mem) := loopN (bX10_stepsOf_49 n0 q1 k37) (fun _ _ _ _ => none) n0
def bX10_stepsOf_37 (n0 : Nat) (q1 : Nat) (k37 : Int32 → Int32 → Mem → Option (Int32 × Mem)) (x3 : Int32) (x4 : Int32) (M : Mem) : Option (Int32 × Mem) :=
  if (gI M (128 * q1 + 5)) ≤ x4 then
    (fX9_isCorner n0 q1 x3 M).bind fun z122 =>
    if z122.1 = 0 then
      some ((-1 : Int32), z122.2)
    else
      if oob x3 5 then none else
      if (1000000 : Int32) ≤ (gA z122.2 19 (Int32.toNatClampNeg x3)) then
        some ((-1 : Int32), z122.2)
      else
        if oob x3 5 then none else
        some ((gA z122.2 19 (Int32.toNatClampNeg x3)), z122.2)
  else
    fX10_stepsOf_49 n0 q1 k37 x3 x4 (0 : Int32) M
def fX10_stepsOf_37 (n0 : Nat) (q1 : Nat) : Int32 → Int32 → Mem → Option (Int32 × Mem) := loopN (bX10_stepsOf_37 n0 q1) (fun _ _ _ => none) n0
def bX10_stepsOf_3 (n0 : Nat) (q1 : Nat) (k3 : Int32 → Int32 → Int32 → Mem → Option (Int32 × Mem)) (x2 : Int32) (x3 : Int32) (x4 : Int32) (M : Mem) : Option (Int32 × Mem) :=
  if (5 : Int32) ≤ x4 then
    fX10_stepsOf_37 n0 q1 x3 (0 : Int32) M
  else
    if x4 = x2 then
      fX10_stepsOf_27 n0 q1 k3 x2 x3 x4 x4 (0 : Int32) M
    else
      fX10_stepsOf_27 n0 q1 k3 x2 x3 x4 x4 (1000000 : Int32) M
def fX10_stepsOf_3 (n0 : Nat) (q1 : Nat) : Int32 → Int32 → Int32 → Mem → Option (Int32 × Mem) := loopN (bX10_stepsOf_3 n0 q1) (fun _ _ _ _ => none) n0
def fX10_stepsOf (n0 : Nat) (q1 : Nat) (x2 : Int32) (x3 : Int32) (M : Mem) : Option (Int32 × Mem) :=
  fX10_stepsOf_3 n0 q1 x2 x3 (0 : Int32) M
theorem tfX10_stepsOf_27 (n0 : Nat) (q1 : Nat) (hq1 : isK LX q1 9) (hO : OKc p (rmL 2) s m args meth c LX D cy ad cX10_stepsOf RX10 6 2 (some .int)) (k3 : Int32 → Int32 → Int32 → Mem → Option (Int32 × Mem)) (hk3 : ∀ (x2 : Int32) (x3 : Int32) (x4 : Int32) (M : Mem), BL p l e (rmL 2) s m args below meth c LX D cy ad 6 (QI LX D cy ad) 3 [(0, .ref (ad 18)), (1, .ref (ad q1)), (2, .int x2), (3, .int x3), (4, .int x4)] [] M (k3 x2 x3 x4 M)) (x2 : Int32) (x3 : Int32) (x4 : Int32) (u1 : Int32) (u2 : Int32) (M : Mem) : BL p l e (rmL 2) s m args below meth c LX D cy ad 6 (QI LX D cy ad) 27 [(0, .ref (ad 18)), (1, .ref (ad q1)), (2, .int x2), (3, .int x3), (4, .int x4)] [.int u2, .int u1, .ref (ad 19)] M (fX10_stepsOf_27 n0 q1 k3 x2 x3 x4 u1 u2 M) := by
  unfold fX10_stepsOf_27
  refine b_iast hO kLX_19 (n := 5) rfl dX10_stepsOf_27 ?_
  refine b_bnd (fun M27 => ?_)
  refine b_iinc hO dX10_stepsOf_28 4 rfl ic_i_1 (by decide) (lv' := [(4, .int _), (0, .ref _), (1, .ref _), (2, .int _), (3, .int _)]) rfl ?_
  refine b_goto hO dX10_stepsOf_31 (tgt := 3) (by decide) ?_
  refine b_sub [1, 2, 3, 4, 0] rfl ?_
  exact hk3 _ _ _ _
theorem tbX10_stepsOf_49 (n0 : Nat) (q1 : Nat) (hq1 : isK LX q1 9) (hO : OKc p (rmL 2) s m args meth c LX D cy ad cX10_stepsOf RX10 6 2 (some .int)) (k37 : Int32 → Int32 → Mem → Option (Int32 × Mem)) (k49 : Int32 → Int32 → Int32 → Mem → Option (Int32 × Mem)) (hk37 : ∀ (x3 : Int32) (x4 : Int32) (M : Mem), BL p l e (rmL 2) s m args below meth c LX D cy ad 6 (QI LX D cy ad) 37 [(0, .ref (ad 18)), (1, .ref (ad q1)), (3, .int x3), (4, .int x4)] [] M (k37 x3 x4 M)) (hk49 : ∀ (x3 : Int32) (x4 : Int32) (x5 : Int32) (M : Mem), BL p l e (rmL 2) s m args below meth c LX D cy ad 6 (QI LX D cy ad) 49 [(0, .ref (ad 18)), (1, .ref (ad q1)), (3, .int x3), (4, .int x4), (5, .int x5)] [] M (k49 x3 x4 x5 M)) (x3 : Int32) (x4 : Int32) (x5 : Int32) (M : Mem) : BL p l e (rmL 2) s m args below meth c LX D cy ad 6 (QI LX D cy ad) 49 [(0, .ref (ad 18)), (1, .ref (ad q1)), (3, .int x3), (4, .int x4), (5, .int x5)] [] M (bX10_stepsOf_49 n0 q1 k37 k49 x3 x4 x5 M) := by
  unfold bX10_stepsOf_49
  refine b_iload hO dX10_stepsOf_49 4 rfl ?_
  refine b_aload_n hO dX10_stepsOf_51 1 rfl rfl ?_
  refine b_get hO flX10_25 hq1 (v := .int (gI _ (128 * q1 + 8))) rfl dX10_stepsOf_52 ?_
  refine b_icmp_ge hO dX10_stepsOf_55 (tgt := 114) (by decide) ?_ ?_
  · refine b_iinc hO dX10_stepsOf_114 3 rfl ic_i_1 (by decide) (lv' := [(4, .int _), (0, .ref _), (1, .ref _), (3, .int _), (5, .int _)]) rfl ?_
    refine b_goto hO dX10_stepsOf_117 (tgt := 37) (by decide) ?_
    refine b_sub [1, 2, 3, 0] rfl ?_
    exact hk37 _ _ _
  · refine b_aload_n hO dX10_stepsOf_58 0 rfl rfl ?_
    refine b_aload_n hO dX10_stepsOf_59 1 rfl rfl ?_
    refine b_get hO flX10_28 hq1 (v := .ref (ad (q1 + 6))) rfl dX10_stepsOf_60 ?_
    refine b_iload hO dX10_stepsOf_63 4 rfl ?_
    refine b_iald hO (kt_9_6 hq1) (n := 10) (lt_9_6 hq1) dX10_stepsOf_65 ?_
    refine b_aload_n hO dX10_stepsOf_66 1 rfl rfl ?_
    refine b_get hO flX10_31 hq1 (v := .ref (ad (q1 + 7))) rfl dX10_stepsOf_67 ?_
    refine b_iload hO dX10_stepsOf_70 4 rfl ?_
    refine b_iald hO (kt_9_7 hq1) (n := 10) (lt_9_7 hq1) dX10_stepsOf_72 ?_
    refine b_aload_n hO dX10_stepsOf_73 1 rfl rfl ?_
    refine b_get hO flX10_34 hq1 (v := .ref (ad (q1 + 8))) rfl dX10_stepsOf_74 ?_
    refine b_iload hO dX10_stepsOf_77 4 rfl ?_
    refine b_iald hO (kt_9_8 hq1) (n := 10) (lt_9_8 hq1) dX10_stepsOf_79 ?_
    refine b_callVV hO mdX10_shorten mvX10_shorten w1059 (ci := 10) rfl rfl (by decide) kLX_18 (As := [.int _, .int _, .int _]) (st := []) (ctX10_shorten n0 hO.2.2.2.2.2.2.1 _ _ _ _) (Nat.le_of_ble_eq_true rfl) rfl rfl (Nat.le_of_ble_eq_true rfl) dX10_stepsOf_80 (fun z80 => ?_)
    refine b_aload_n hO dX10_stepsOf_83 0 rfl rfl ?_
    refine b_aload_n hO dX10_stepsOf_84 1 rfl rfl ?_
    refine b_get hO flX10_31 hq1 (v := .ref (ad (q1 + 7))) rfl dX10_stepsOf_85 ?_
    refine b_iload hO dX10_stepsOf_88 4 rfl ?_
    refine b_iald hO (kt_9_7 hq1) (n := 10) (lt_9_7 hq1) dX10_stepsOf_90 ?_
    refine b_aload_n hO dX10_stepsOf_91 1 rfl rfl ?_
    refine b_get hO flX10_28 hq1 (v := .ref (ad (q1 + 6))) rfl dX10_stepsOf_92 ?_
    refine b_iload hO dX10_stepsOf_95 4 rfl ?_
    refine b_iald hO (kt_9_6 hq1) (n := 10) (lt_9_6 hq1) dX10_stepsOf_97 ?_
    refine b_aload_n hO dX10_stepsOf_98 1 rfl rfl ?_
    refine b_get hO flX10_34 hq1 (v := .ref (ad (q1 + 8))) rfl dX10_stepsOf_99 ?_
    refine b_iload hO dX10_stepsOf_102 4 rfl ?_
    refine b_iald hO (kt_9_8 hq1) (n := 10) (lt_9_8 hq1) dX10_stepsOf_104 ?_
    refine b_callVV hO mdX10_shorten mvX10_shorten w1059 (ci := 10) rfl rfl (by decide) kLX_18 (As := [.int _, .int _, .int _]) (st := []) (ctX10_shorten n0 hO.2.2.2.2.2.2.1 _ _ _ _) (Nat.le_of_ble_eq_true rfl) rfl rfl (Nat.le_of_ble_eq_true rfl) dX10_stepsOf_105 (fun z105 => ?_)
    refine b_iinc hO dX10_stepsOf_108 4 rfl ic_i_1 (by decide) (lv' := [(5, .int _), (0, .ref _), (1, .ref _), (3, .int _), (4, .int _)]) rfl ?_
    refine b_goto hO dX10_stepsOf_111 (tgt := 49) (by decide) ?_
    refine b_sub [1, 2, 3, 4, 0] rfl ?_
    exact hk49 _ _ _ _
theorem lX10_stepsOf_49 (n0 : Nat) (q1 : Nat) (hq1 : isK LX q1 9) (hO : OKc p (rmL 2) s m args meth c LX D cy ad cX10_stepsOf RX10 6 2 (some .int)) (k37 : Int32 → Int32 → Mem → Option (Int32 × Mem)) (hk37 : ∀ (x3 : Int32) (x4 : Int32) (M : Mem), BL p l e (rmL 2) s m args below meth c LX D cy ad 6 (QI LX D cy ad) 37 [(0, .ref (ad 18)), (1, .ref (ad q1)), (3, .int x3), (4, .int x4)] [] M (k37 x3 x4 M)) : ∀ (w : Nat) (x3 : Int32) (x4 : Int32) (x5 : Int32) (M : Mem), BL p l e (rmL 2) s m args below meth c LX D cy ad 6 (QI LX D cy ad) 49 [(0, .ref (ad 18)), (1, .ref (ad q1)), (3, .int x3), (4, .int x4), (5, .int x5)] [] M (loopN (bX10_stepsOf_49 n0 q1 k37) (fun _ _ _ _ => none) w x3 x4 x5 M) := by
  intro w
  induction w with
  | zero =>
    intros
    exact b_none
  | succ w ih =>
    intro x3 x4 x5 M
    exact tbX10_stepsOf_49 n0 q1 hq1 hO k37 _ hk37 ih x3 x4 x5 M
theorem tfX10_stepsOf_49 (n0 : Nat) (q1 : Nat) (hq1 : isK LX q1 9) (hO : OKc p (rmL 2) s m args meth c LX D cy ad cX10_stepsOf RX10 6 2 (some .int)) (k37 : Int32 → Int32 → Mem → Option (Int32 × Mem)) (hk37 : ∀ (x3 : Int32) (x4 : Int32) (M : Mem), BL p l e (rmL 2) s m args below meth c LX D cy ad 6 (QI LX D cy ad) 37 [(0, .ref (ad 18)), (1, .ref (ad q1)), (3, .int x3), (4, .int x4)] [] M (k37 x3 x4 M)) (x3 : Int32) (x4 : Int32) (x5 : Int32) (M : Mem) : BL p l e (rmL 2) s m args below meth c LX D cy ad 6 (QI LX D cy ad) 49 [(0, .ref (ad 18)), (1, .ref (ad q1)), (3, .int x3), (4, .int x4), (5, .int x5)] [] M (fX10_stepsOf_49 n0 q1 k37 x3 x4 x5 M) := lX10_stepsOf_49 n0 q1 hq1 hO k37 hk37 n0 x3 x4 x5 M
theorem tbX10_stepsOf_37 (n0 : Nat) (q1 : Nat) (hq1 : isK LX q1 9) (hO : OKc p (rmL 2) s m args meth c LX D cy ad cX10_stepsOf RX10 6 2 (some .int)) (k37 : Int32 → Int32 → Mem → Option (Int32 × Mem)) (hk37 : ∀ (x3 : Int32) (x4 : Int32) (M : Mem), BL p l e (rmL 2) s m args below meth c LX D cy ad 6 (QI LX D cy ad) 37 [(0, .ref (ad 18)), (1, .ref (ad q1)), (3, .int x3), (4, .int x4)] [] M (k37 x3 x4 M)) (x3 : Int32) (x4 : Int32) (M : Mem) : BL p l e (rmL 2) s m args below meth c LX D cy ad 6 (QI LX D cy ad) 37 [(0, .ref (ad 18)), (1, .ref (ad q1)), (3, .int x3), (4, .int x4)] [] M (bX10_stepsOf_37 n0 q1 k37 x3 x4 M) := by
  unfold bX10_stepsOf_37
  refine b_iload hO dX10_stepsOf_37 3 rfl ?_
  refine b_aload_n hO dX10_stepsOf_39 1 rfl rfl ?_
  refine b_get hO flX10_19 hq1 (v := .int (gI _ (128 * q1 + 5))) rfl dX10_stepsOf_40 ?_
  refine b_icmp_ge hO dX10_stepsOf_43 (tgt := 120) (by decide) ?_ ?_
  · refine b_aload_n hO dX10_stepsOf_120 1 rfl rfl ?_
    refine b_iload_n hO dX10_stepsOf_121 2 rfl rfl ?_
    refine b_callVI hO mdX9_isCorner mvX9_isCorner w1064 (ci := 9) rfl rfl (by decide) hq1 (As := [.int _]) (st := []) (ctX9_isCorner n0 _ hq1 hO.2.2.2.2.2.2.1 _ _) (Nat.le_of_ble_eq_true rfl) rfl rfl (Nat.le_of_ble_eq_true rfl) dX10_stepsOf_122 (fun z122 => ?_)
    refine b_if_eq hO dX10_stepsOf_125 (tgt := 148) (by decide) ?_ ?_
    · refine b_iconst hO dX10_stepsOf_148 ic_i_m1 ?_
      exact b_iret hO dX10_stepsOf_149
    · refine b_aload_n hO dX10_stepsOf_128 0 rfl rfl ?_
      refine b_get hO flX10_9 kLX_18 (v := .ref (ad 19)) rfl dX10_stepsOf_129 ?_
      refine b_iload_n hO dX10_stepsOf_132 2 rfl rfl ?_
      refine b_iald hO kLX_19 (n := 5) rfl dX10_stepsOf_133 ?_
      refine b_ldc hO w1058 dX10_stepsOf_134 ?_
      refine b_icmp_ge hO dX10_stepsOf_136 (tgt := 148) (by decide) ?_ ?_
      · refine b_iconst hO dX10_stepsOf_148 ic_i_m1 ?_
        exact b_iret hO dX10_stepsOf_149
      · refine b_aload_n hO dX10_stepsOf_139 0 rfl rfl ?_
        refine b_get hO flX10_9 kLX_18 (v := .ref (ad 19)) rfl dX10_stepsOf_140 ?_
        refine b_iload_n hO dX10_stepsOf_143 2 rfl rfl ?_
        refine b_iald hO kLX_19 (n := 5) rfl dX10_stepsOf_144 ?_
        refine b_goto hO dX10_stepsOf_145 (tgt := 149) (by decide) ?_
        exact b_iret hO dX10_stepsOf_149
  · refine b_iconst hO dX10_stepsOf_46 ic_i_0 ?_
    refine b_istore hO dX10_stepsOf_47 (by decide) (lv' := [(5, .int _), (0, .ref _), (1, .ref _), (3, .int _), (4, .int _)]) rfl ?_
    refine b_sub [1, 2, 3, 4, 0] rfl ?_
    exact tfX10_stepsOf_49 n0 q1 hq1 hO k37 hk37 _ _ _ _
theorem lX10_stepsOf_37 (n0 : Nat) (q1 : Nat) (hq1 : isK LX q1 9) (hO : OKc p (rmL 2) s m args meth c LX D cy ad cX10_stepsOf RX10 6 2 (some .int)) : ∀ (w : Nat) (x3 : Int32) (x4 : Int32) (M : Mem), BL p l e (rmL 2) s m args below meth c LX D cy ad 6 (QI LX D cy ad) 37 [(0, .ref (ad 18)), (1, .ref (ad q1)), (3, .int x3), (4, .int x4)] [] M (loopN (bX10_stepsOf_37 n0 q1) (fun _ _ _ => none) w x3 x4 M) := by
  intro w
  induction w with
  | zero =>
    intros
    exact b_none
  | succ w ih =>
    intro x3 x4 M
    exact tbX10_stepsOf_37 n0 q1 hq1 hO _ ih x3 x4 M
theorem tfX10_stepsOf_37 (n0 : Nat) (q1 : Nat) (hq1 : isK LX q1 9) (hO : OKc p (rmL 2) s m args meth c LX D cy ad cX10_stepsOf RX10 6 2 (some .int)) (x3 : Int32) (x4 : Int32) (M : Mem) : BL p l e (rmL 2) s m args below meth c LX D cy ad 6 (QI LX D cy ad) 37 [(0, .ref (ad 18)), (1, .ref (ad q1)), (3, .int x3), (4, .int x4)] [] M (fX10_stepsOf_37 n0 q1 x3 x4 M) := lX10_stepsOf_37 n0 q1 hq1 hO n0 x3 x4 M
theorem tbX10_stepsOf_3 (n0 : Nat) (q1 : Nat) (hq1 : isK LX q1 9) (hO : OKc p (rmL 2) s m args meth c LX D cy ad cX10_stepsOf RX10 6 2 (some .int)) (k3 : Int32 → Int32 → Int32 → Mem → Option (Int32 × Mem)) (hk3 : ∀ (x2 : Int32) (x3 : Int32) (x4 : Int32) (M : Mem), BL p l e (rmL 2) s m args below meth c LX D cy ad 6 (QI LX D cy ad) 3 [(0, .ref (ad 18)), (1, .ref (ad q1)), (2, .int x2), (3, .int x3), (4, .int x4)] [] M (k3 x2 x3 x4 M)) (x2 : Int32) (x3 : Int32) (x4 : Int32) (M : Mem) : BL p l e (rmL 2) s m args below meth c LX D cy ad 6 (QI LX D cy ad) 3 [(0, .ref (ad 18)), (1, .ref (ad q1)), (2, .int x2), (3, .int x3), (4, .int x4)] [] M (bX10_stepsOf_3 n0 q1 k3 x2 x3 x4 M) := by
  unfold bX10_stepsOf_3
  refine b_iload hO dX10_stepsOf_3 4 rfl ?_
  refine b_iconst hO dX10_stepsOf_5 ic_i_5 ?_
  refine b_icmp_ge hO dX10_stepsOf_6 (tgt := 34) (by decide) ?_ ?_
  · refine b_iconst hO dX10_stepsOf_34 ic_i_0 ?_
    refine b_istore hO dX10_stepsOf_35 (by decide) (lv' := [(4, .int _), (0, .ref _), (1, .ref _), (2, .int _), (3, .int _)]) rfl ?_
    refine b_sub [1, 2, 4, 0] rfl ?_
    exact tfX10_stepsOf_37 n0 q1 hq1 hO _ _ _
  · refine b_aload_n hO dX10_stepsOf_9 0 rfl rfl ?_
    refine b_get hO flX10_9 kLX_18 (v := .ref (ad 19)) rfl dX10_stepsOf_10 ?_
    refine b_iload hO dX10_stepsOf_13 4 rfl ?_
    refine b_iload hO dX10_stepsOf_15 4 rfl ?_
    refine b_iload_n hO dX10_stepsOf_17 2 rfl rfl ?_
    refine b_icmp_ne hO dX10_stepsOf_18 (tgt := 25) (by decide) ?_ ?_
    · refine b_ldc hO w1058 dX10_stepsOf_25 ?_
      exact tfX10_stepsOf_27 n0 q1 hq1 hO k3 hk3 _ _ _ _ _ _
    · refine b_iconst hO dX10_stepsOf_21 ic_i_0 ?_
      refine b_goto hO dX10_stepsOf_22 (tgt := 27) (by decide) ?_
      exact tfX10_stepsOf_27 n0 q1 hq1 hO k3 hk3 _ _ _ _ _ _
theorem lX10_stepsOf_3 (n0 : Nat) (q1 : Nat) (hq1 : isK LX q1 9) (hO : OKc p (rmL 2) s m args meth c LX D cy ad cX10_stepsOf RX10 6 2 (some .int)) : ∀ (w : Nat) (x2 : Int32) (x3 : Int32) (x4 : Int32) (M : Mem), BL p l e (rmL 2) s m args below meth c LX D cy ad 6 (QI LX D cy ad) 3 [(0, .ref (ad 18)), (1, .ref (ad q1)), (2, .int x2), (3, .int x3), (4, .int x4)] [] M (loopN (bX10_stepsOf_3 n0 q1) (fun _ _ _ _ => none) w x2 x3 x4 M) := by
  intro w
  induction w with
  | zero =>
    intros
    exact b_none
  | succ w ih =>
    intro x2 x3 x4 M
    exact tbX10_stepsOf_3 n0 q1 hq1 hO _ ih x2 x3 x4 M
theorem tfX10_stepsOf_3 (n0 : Nat) (q1 : Nat) (hq1 : isK LX q1 9) (hO : OKc p (rmL 2) s m args meth c LX D cy ad cX10_stepsOf RX10 6 2 (some .int)) (x2 : Int32) (x3 : Int32) (x4 : Int32) (M : Mem) : BL p l e (rmL 2) s m args below meth c LX D cy ad 6 (QI LX D cy ad) 3 [(0, .ref (ad 18)), (1, .ref (ad q1)), (2, .int x2), (3, .int x3), (4, .int x4)] [] M (fX10_stepsOf_3 n0 q1 x2 x3 x4 M) := lX10_stepsOf_3 n0 q1 hq1 hO n0 x2 x3 x4 M
theorem tfX10_stepsOf (n0 : Nat) (q1 : Nat) (hq1 : isK LX q1 9) (hO : OKc p (rmL 2) s m args meth c LX D cy ad cX10_stepsOf RX10 6 2 (some .int)) (x2 : Int32) (x3 : Int32) (M : Mem) : BL p l e (rmL 2) s m args below meth c LX D cy ad 6 (QI LX D cy ad) 0 [(0, .ref (ad 18)), (1, .ref (ad q1)), (2, .int x2), (3, .int x3)] [] M (fX10_stepsOf n0 q1 x2 x3 M) := by
  unfold fX10_stepsOf
  refine b_iconst hO dX10_stepsOf_0 ic_i_0 ?_
  refine b_istore hO dX10_stepsOf_1 (by decide) (lv' := [(4, .int _), (0, .ref _), (1, .ref _), (2, .int _), (3, .int _)]) rfl ?_
  refine b_sub [1, 2, 3, 4, 0] rfl ?_
  exact tfX10_stepsOf_3 n0 q1 hq1 hO _ _ _ _
theorem ctX10_stepsOf (n0 : Nat) (q1 : Nat) (hq1 : isK LX q1 9) (hI : Inj LX ad) (x2 : Int32) (x3 : Int32) (M : Mem) : CT l LX D cy ad yX10_stepsOf cX10_stepsOf 6 (some .int) 2 (QI LX D cy ad) [.ref (ad 18), .ref (ad q1), .int x2, .int x3] M (fX10_stepsOf n0 q1 x2 x3 M) :=
  CT.mk LXok hI (by decide) (Nat.le_of_ble_eq_true rfl) (fun hO => tfX10_stepsOf n0 q1 hq1 hO x2 x3 M)
/-! X10_across -/
def fX10_across (n0 : Nat) (q0 : Nat) (x1 : Int32) (x2 : Int32) (M : Mem) : Option (Int32 × Mem) :=
  if oob x1 10 then none else
  bnd (gA M (q0 + 6) (Int32.toNatClampNeg x1)) fun x3_6 =>
  if oob x1 10 then none else
  bnd (gA M (q0 + 7) (Int32.toNatClampNeg x1)) fun x4_13 =>
  some (((((x2 >>> (x3_6 &&& 31)) &&& (1 : Int32)) <<< (x4_13 &&& 31)) ||| (((x2 >>> (x4_13 &&& 31)) &&& (1 : Int32)) <<< (x3_6 &&& 31))), M)
theorem tfX10_across (n0 : Nat) (q0 : Nat) (hq0 : isK LX q0 9) (hO : OKc p (rmL 1) s m args meth c LX D cy ad cX10_across RX10 5 1 (some .int)) (x1 : Int32) (x2 : Int32) (M : Mem) : BL p l e (rmL 1) s m args below meth c LX D cy ad 5 (QI LX D cy ad) 0 [(0, .ref (ad q0)), (1, .int x1), (2, .int x2)] [] M (fX10_across n0 q0 x1 x2 M) := by
  unfold fX10_across
  refine b_aload_n hO dX10_across_0 0 rfl rfl ?_
  refine b_get hO flX10_28 hq0 (v := .ref (ad (q0 + 6))) rfl dX10_across_1 ?_
  refine b_iload_n hO dX10_across_4 1 rfl rfl ?_
  refine b_iald hO (kt_9_6 hq0) (n := 10) (lt_9_6 hq0) dX10_across_5 ?_
  refine b_topI (fun x3_6 => ?_)
  refine b_istore_n hO dX10_across_6 rfl (by decide) (lv' := [(3, .int _), (0, .ref _), (1, .int _), (2, .int _)]) rfl ?_
  refine b_aload_n hO dX10_across_7 1 rfl rfl ?_
  refine b_get hO flX10_31 hq0 (v := .ref (ad (q0 + 7))) rfl dX10_across_8 ?_
  refine b_iload_n hO dX10_across_11 2 rfl rfl ?_
  refine b_iald hO (kt_9_7 hq0) (n := 10) (lt_9_7 hq0) dX10_across_12 ?_
  refine b_topI (fun x4_13 => ?_)
  refine b_istore hO dX10_across_13 (by decide) (lv' := [(4, .int _), (3, .int _), (0, .ref _), (1, .int _), (2, .int _)]) rfl ?_
  refine b_iload_n hO dX10_across_15 4 rfl rfl ?_
  refine b_iload_n hO dX10_across_16 1 rfl rfl ?_
  refine b_ishr hO dX10_across_17 ?_
  refine b_iconst hO dX10_across_18 ic_i_1 ?_
  refine b_iand hO dX10_across_19 ?_
  refine b_iload hO dX10_across_20 0 rfl ?_
  refine b_ishl hO dX10_across_22 ?_
  refine b_iload_n hO dX10_across_23 4 rfl rfl ?_
  refine b_iload hO dX10_across_24 0 rfl ?_
  refine b_ishr hO dX10_across_26 ?_
  refine b_iconst hO dX10_across_27 ic_i_1 ?_
  refine b_iand hO dX10_across_28 ?_
  refine b_iload_n hO dX10_across_29 1 rfl rfl ?_
  refine b_ishl hO dX10_across_30 ?_
  refine b_ior hO dX10_across_31 ?_
  exact b_iret hO dX10_across_32
theorem ctX10_across (n0 : Nat) (q0 : Nat) (hq0 : isK LX q0 9) (hI : Inj LX ad) (x1 : Int32) (x2 : Int32) (M : Mem) : CT l LX D cy ad yX10_across cX10_across 5 (some .int) 1 (QI LX D cy ad) [.ref (ad q0), .int x1, .int x2] M (fX10_across n0 q0 x1 x2 M) :=
  CT.mk LXok hI (by decide) (Nat.le_of_ble_eq_true rfl) (fun hO => tfX10_across n0 q0 hq0 hO x1 x2 M)
/-! X10_goOutFrom -/
def fX10_goOutFrom_74 (n0 : Nat) (q1 : Nat) (k11 : Int32 → Mem → Option (Mem)) (k27 : Int32 → Int32 → Mem → Option (Mem)) (x3 : Int32) (x4 : Int32) (M : Mem) : Option (Mem) :=
  k27 x3 (x4 + (1 : Int32)) M
def bX10_goOutFrom_27 (n0 : Nat) (q1 : Nat) (k11 : Int32 → Mem → Option (Mem)) (k27 : Int32 → Int32 → Mem → Option (Mem)) (x3 : Int32) (x4 : Int32) (M : Mem) : Option (Mem) :=
  if (gI M (128 * q1 + 8)) ≤ x4 then
    k11 (x3 + (1 : Int32)) M
  else
    if oob x4 10 then none else
    bnd (x3 - (gA M (q1 + 8) (Int32.toNatClampNeg x4))) fun x5_45 =>
    if x5_45 < 0 then
      fX10_goOutFrom_74 n0 q1 k11 k27 x3 x4 M
    else
      if oob x3 61 then none else
      if oob x5_45 61 then none else
      (fX10_across n0 q1 x4 (gA M 20 (Int32.toNatClampNeg x5_45)) M).bind fun z69 =>
      if oob x3 61 then none else
      fX10_goOutFrom_74 n0 q1 k11 k27 x3 x4 (sA z69.2 20 (Int32.toNatClampNeg x3) ((gA M 20 (Int32.toNatClampNeg x3)) ||| z69.1))
def fX10_goOutFrom_27 (n0 : Nat) (q1 : Nat) (k11 : Int32 → Mem → Option (Mem)) : Int32 → Int32 → Mem → Option (Mem) := loopN (bX10_goOutFrom_27 n0 q1 k11) (fun _ _ _ => none) n0
def bX10_goOutFrom_11 (n0 : Nat) (q1 : Nat) (k11 : Int32 → Mem → Option (Mem)) (x3 : Int32) (M : Mem) : Option (Mem) :=
  if (60 : Int32) < x3 then
    some M
  else
    if oob x3 61 then none else
    bnd (sA M 20 (Int32.toNatClampNeg x3) (0 : Int32)) fun M23 =>
    fX10_goOutFrom_27 n0 q1 k11 x3 (0 : Int32) M23
def fX10_goOutFrom_11 (n0 : Nat) (q1 : Nat) : Int32 → Mem → Option (Mem) := loopN (bX10_goOutFrom_11 n0 q1) (fun _ _ => none) n0
def fX10_goOutFrom (n0 : Nat) (q1 : Nat) (x2 : Int32) (M : Mem) : Option (Mem) :=
  if oob (0 : Int32) 61 then none else
  bnd (sA M 20 (Int32.toNatClampNeg (0 : Int32)) ((1 : Int32) <<< (x2 &&& 31))) fun M8 =>
  fX10_goOutFrom_11 n0 q1 (1 : Int32) M8
theorem tfX10_goOutFrom_74 (n0 : Nat) (q1 : Nat) (hq1 : isK LX q1 9) (hO : OKc p (rmL 2) s m args meth c LX D cy ad cX10_goOutFrom RX10 6 2 none) (k11 : Int32 → Mem → Option (Mem)) (k27 : Int32 → Int32 → Mem → Option (Mem)) (hk11 : ∀ (x3 : Int32) (M : Mem), BL p l e (rmL 2) s m args below meth c LX D cy ad 6 (QV LX D cy ad) 11 [(0, .ref (ad 18)), (1, .ref (ad q1)), (3, .int x3)] [] M (k11 x3 M)) (hk27 : ∀ (x3 : Int32) (x4 : Int32) (M : Mem), BL p l e (rmL 2) s m args below meth c LX D cy ad 6 (QV LX D cy ad) 27 [(0, .ref (ad 18)), (1, .ref (ad q1)), (3, .int x3), (4, .int x4)] [] M (k27 x3 x4 M)) (x3 : Int32) (x4 : Int32) (M : Mem) : BL p l e (rmL 2) s m args below meth c LX D cy ad 6 (QV LX D cy ad) 74 [(0, .ref (ad 18)), (1, .ref (ad q1)), (3, .int x3), (4, .int x4)] [] M (fX10_goOutFrom_74 n0 q1 k11 k27 x3 x4 M) := by
  unfold fX10_goOutFrom_74
  refine b_iinc hO dX10_goOutFrom_74 3 rfl ic_i_1 (by decide) (lv' := [(4, .int _), (0, .ref _), (1, .ref _), (3, .int _)]) rfl ?_
  refine b_goto hO dX10_goOutFrom_77 (tgt := 27) (by decide) ?_
  refine b_sub [1, 2, 3, 0] rfl ?_
  exact hk27 _ _ _
theorem tbX10_goOutFrom_27 (n0 : Nat) (q1 : Nat) (hq1 : isK LX q1 9) (hO : OKc p (rmL 2) s m args meth c LX D cy ad cX10_goOutFrom RX10 6 2 none) (k11 : Int32 → Mem → Option (Mem)) (k27 : Int32 → Int32 → Mem → Option (Mem)) (hk11 : ∀ (x3 : Int32) (M : Mem), BL p l e (rmL 2) s m args below meth c LX D cy ad 6 (QV LX D cy ad) 11 [(0, .ref (ad 18)), (1, .ref (ad q1)), (3, .int x3)] [] M (k11 x3 M)) (hk27 : ∀ (x3 : Int32) (x4 : Int32) (M : Mem), BL p l e (rmL 2) s m args below meth c LX D cy ad 6 (QV LX D cy ad) 27 [(0, .ref (ad 18)), (1, .ref (ad q1)), (3, .int x3), (4, .int x4)] [] M (k27 x3 x4 M)) (x3 : Int32) (x4 : Int32) (M : Mem) : BL p l e (rmL 2) s m args below meth c LX D cy ad 6 (QV LX D cy ad) 27 [(0, .ref (ad 18)), (1, .ref (ad q1)), (3, .int x3), (4, .int x4)] [] M (bX10_goOutFrom_27 n0 q1 k11 k27 x3 x4 M) := by
  unfold bX10_goOutFrom_27
  refine b_iload hO dX10_goOutFrom_27 3 rfl ?_
  refine b_aload_n hO dX10_goOutFrom_29 1 rfl rfl ?_
  refine b_get hO flX10_25 hq1 (v := .int (gI _ (128 * q1 + 8))) rfl dX10_goOutFrom_30 ?_
  refine b_icmp_ge hO dX10_goOutFrom_33 (tgt := 80) (by decide) ?_ ?_
  · refine b_iinc hO dX10_goOutFrom_80 2 rfl ic_i_1 (by decide) (lv' := [(3, .int _), (0, .ref _), (1, .ref _), (4, .int _)]) rfl ?_
    refine b_goto hO dX10_goOutFrom_83 (tgt := 11) (by decide) ?_
    refine b_sub [1, 2, 0] rfl ?_
    exact hk11 _ _
  · refine b_iload_n hO dX10_goOutFrom_36 2 rfl rfl ?_
    refine b_aload_n hO dX10_goOutFrom_37 1 rfl rfl ?_
    refine b_get hO flX10_34 hq1 (v := .ref (ad (q1 + 8))) rfl dX10_goOutFrom_38 ?_
    refine b_iload hO dX10_goOutFrom_41 3 rfl ?_
    refine b_iald hO (kt_9_8 hq1) (n := 10) (lt_9_8 hq1) dX10_goOutFrom_43 ?_
    refine b_isub hO dX10_goOutFrom_44 ?_
    refine b_topI (fun x5_45 => ?_)
    refine b_istore hO dX10_goOutFrom_45 (by decide) (lv' := [(5, .int _), (0, .ref _), (1, .ref _), (3, .int _), (4, .int _)]) rfl ?_
    refine b_iload hO dX10_goOutFrom_47 0 rfl ?_
    refine b_if_lt hO dX10_goOutFrom_49 (tgt := 74) (by decide) ?_ ?_
    · refine b_sub [1, 2, 3, 4] rfl ?_
      exact tfX10_goOutFrom_74 n0 q1 hq1 hO k11 k27 hk11 hk27 _ _ _
    · refine b_aload_n hO dX10_goOutFrom_52 1 rfl rfl ?_
      refine b_get hO flX10_15 kLX_18 (v := .ref (ad 20)) rfl dX10_goOutFrom_53 ?_
      refine b_iload_n hO dX10_goOutFrom_56 3 rfl rfl ?_
      refine b_dup2 hO dX10_goOutFrom_57 rfl rfl ?_
      refine b_iald hO kLX_20 (n := 61) rfl dX10_goOutFrom_58 ?_
      refine b_aload_n hO dX10_goOutFrom_59 2 rfl rfl ?_
      refine b_iload hO dX10_goOutFrom_60 4 rfl ?_
      refine b_aload_n hO dX10_goOutFrom_62 1 rfl rfl ?_
      refine b_get hO flX10_15 kLX_18 (v := .ref (ad 20)) rfl dX10_goOutFrom_63 ?_
      refine b_iload hO dX10_goOutFrom_66 0 rfl ?_
      refine b_iald hO kLX_20 (n := 61) rfl dX10_goOutFrom_68 ?_
      refine b_callSI hO mdX10_across w1078 w1077 (As := [.ref _, .int _, .int _]) (st := [.int _, .int _, .ref _]) (ctX10_across n0 _ hq1 hO.2.2.2.2.2.2.1 _ _ _) (Nat.le_of_ble_eq_true rfl) rfl rfl (Nat.le_of_ble_eq_true rfl) dX10_goOutFrom_69 (fun z69 => ?_)
      refine b_ior hO dX10_goOutFrom_72 ?_
      refine b_iast hO kLX_20 (n := 61) rfl dX10_goOutFrom_73 ?_
      refine b_sub [1, 2, 3, 4] rfl ?_
      exact tfX10_goOutFrom_74 n0 q1 hq1 hO k11 k27 hk11 hk27 _ _ _
theorem lX10_goOutFrom_27 (n0 : Nat) (q1 : Nat) (hq1 : isK LX q1 9) (hO : OKc p (rmL 2) s m args meth c LX D cy ad cX10_goOutFrom RX10 6 2 none) (k11 : Int32 → Mem → Option (Mem)) (hk11 : ∀ (x3 : Int32) (M : Mem), BL p l e (rmL 2) s m args below meth c LX D cy ad 6 (QV LX D cy ad) 11 [(0, .ref (ad 18)), (1, .ref (ad q1)), (3, .int x3)] [] M (k11 x3 M)) : ∀ (w : Nat) (x3 : Int32) (x4 : Int32) (M : Mem), BL p l e (rmL 2) s m args below meth c LX D cy ad 6 (QV LX D cy ad) 27 [(0, .ref (ad 18)), (1, .ref (ad q1)), (3, .int x3), (4, .int x4)] [] M (loopN (bX10_goOutFrom_27 n0 q1 k11) (fun _ _ _ => none) w x3 x4 M) := by
  intro w
  induction w with
  | zero =>
    intros
    exact b_none
  | succ w ih =>
    intro x3 x4 M
    exact tbX10_goOutFrom_27 n0 q1 hq1 hO k11 _ hk11 ih x3 x4 M
theorem tfX10_goOutFrom_27 (n0 : Nat) (q1 : Nat) (hq1 : isK LX q1 9) (hO : OKc p (rmL 2) s m args meth c LX D cy ad cX10_goOutFrom RX10 6 2 none) (k11 : Int32 → Mem → Option (Mem)) (hk11 : ∀ (x3 : Int32) (M : Mem), BL p l e (rmL 2) s m args below meth c LX D cy ad 6 (QV LX D cy ad) 11 [(0, .ref (ad 18)), (1, .ref (ad q1)), (3, .int x3)] [] M (k11 x3 M)) (x3 : Int32) (x4 : Int32) (M : Mem) : BL p l e (rmL 2) s m args below meth c LX D cy ad 6 (QV LX D cy ad) 27 [(0, .ref (ad 18)), (1, .ref (ad q1)), (3, .int x3), (4, .int x4)] [] M (fX10_goOutFrom_27 n0 q1 k11 x3 x4 M) := lX10_goOutFrom_27 n0 q1 hq1 hO k11 hk11 n0 x3 x4 M
theorem tbX10_goOutFrom_11 (n0 : Nat) (q1 : Nat) (hq1 : isK LX q1 9) (hO : OKc p (rmL 2) s m args meth c LX D cy ad cX10_goOutFrom RX10 6 2 none) (k11 : Int32 → Mem → Option (Mem)) (hk11 : ∀ (x3 : Int32) (M : Mem), BL p l e (rmL 2) s m args below meth c LX D cy ad 6 (QV LX D cy ad) 11 [(0, .ref (ad 18)), (1, .ref (ad q1)), (3, .int x3)] [] M (k11 x3 M)) (x3 : Int32) (M : Mem) : BL p l e (rmL 2) s m args below meth c LX D cy ad 6 (QV LX D cy ad) 11 [(0, .ref (ad 18)), (1, .ref (ad q1)), (3, .int x3)] [] M (bX10_goOutFrom_11 n0 q1 k11 x3 M) := by
  unfold bX10_goOutFrom_11
  refine b_iload_n hO dX10_goOutFrom_11 2 rfl rfl ?_
  refine b_bipush hO dX10_goOutFrom_12 ic_b_60 ?_
  refine b_icmp_gt hO dX10_goOutFrom_14 (tgt := 86) (by decide) ?_ ?_
  · exact b_vret hO dX10_goOutFrom_86
  · refine b_aload_n hO dX10_goOutFrom_17 0 rfl rfl ?_
    refine b_get hO flX10_15 kLX_18 (v := .ref (ad 20)) rfl dX10_goOutFrom_18 ?_
    refine b_iload_n hO dX10_goOutFrom_21 2 rfl rfl ?_
    refine b_iconst hO dX10_goOutFrom_22 ic_i_0 ?_
    refine b_iast hO kLX_20 (n := 61) rfl dX10_goOutFrom_23 ?_
    refine b_bnd (fun M23 => ?_)
    refine b_iconst hO dX10_goOutFrom_24 ic_i_0 ?_
    refine b_istore hO dX10_goOutFrom_25 (by decide) (lv' := [(4, .int _), (0, .ref _), (1, .ref _), (3, .int _)]) rfl ?_
    refine b_sub [1, 2, 3, 0] rfl ?_
    exact tfX10_goOutFrom_27 n0 q1 hq1 hO k11 hk11 _ _ _
theorem lX10_goOutFrom_11 (n0 : Nat) (q1 : Nat) (hq1 : isK LX q1 9) (hO : OKc p (rmL 2) s m args meth c LX D cy ad cX10_goOutFrom RX10 6 2 none) : ∀ (w : Nat) (x3 : Int32) (M : Mem), BL p l e (rmL 2) s m args below meth c LX D cy ad 6 (QV LX D cy ad) 11 [(0, .ref (ad 18)), (1, .ref (ad q1)), (3, .int x3)] [] M (loopN (bX10_goOutFrom_11 n0 q1) (fun _ _ => none) w x3 M) := by
  intro w
  induction w with
  | zero =>
    intros
    exact b_none
  | succ w ih =>
    intro x3 M
    exact tbX10_goOutFrom_11 n0 q1 hq1 hO _ ih x3 M
theorem tfX10_goOutFrom_11 (n0 : Nat) (q1 : Nat) (hq1 : isK LX q1 9) (hO : OKc p (rmL 2) s m args meth c LX D cy ad cX10_goOutFrom RX10 6 2 none) (x3 : Int32) (M : Mem) : BL p l e (rmL 2) s m args below meth c LX D cy ad 6 (QV LX D cy ad) 11 [(0, .ref (ad 18)), (1, .ref (ad q1)), (3, .int x3)] [] M (fX10_goOutFrom_11 n0 q1 x3 M) := lX10_goOutFrom_11 n0 q1 hq1 hO n0 x3 M
theorem tfX10_goOutFrom (n0 : Nat) (q1 : Nat) (hq1 : isK LX q1 9) (hO : OKc p (rmL 2) s m args meth c LX D cy ad cX10_goOutFrom RX10 6 2 none) (x2 : Int32) (M : Mem) : BL p l e (rmL 2) s m args below meth c LX D cy ad 6 (QV LX D cy ad) 0 [(0, .ref (ad 18)), (1, .ref (ad q1)), (2, .int x2)] [] M (fX10_goOutFrom n0 q1 x2 M) := by
  unfold fX10_goOutFrom
  refine b_aload_n hO dX10_goOutFrom_0 0 rfl rfl ?_
  refine b_get hO flX10_15 kLX_18 (v := .ref (ad 20)) rfl dX10_goOutFrom_1 ?_
  refine b_iconst hO dX10_goOutFrom_4 ic_i_0 ?_
  refine b_iconst hO dX10_goOutFrom_5 ic_i_1 ?_
  refine b_iload_n hO dX10_goOutFrom_6 2 rfl rfl ?_
  refine b_ishl hO dX10_goOutFrom_7 ?_
  refine b_iast hO kLX_20 (n := 61) rfl dX10_goOutFrom_8 ?_
  refine b_bnd (fun M8 => ?_)
  refine b_iconst hO dX10_goOutFrom_9 ic_i_1 ?_
  refine b_istore_n hO dX10_goOutFrom_10 rfl (by decide) (lv' := [(3, .int _), (0, .ref _), (1, .ref _), (2, .int _)]) rfl ?_
  refine b_sub [1, 2, 0] rfl ?_
  exact tfX10_goOutFrom_11 n0 q1 hq1 hO _ _
theorem ctX10_goOutFrom (n0 : Nat) (q1 : Nat) (hq1 : isK LX q1 9) (hI : Inj LX ad) (x2 : Int32) (M : Mem) : CT l LX D cy ad yX10_goOutFrom cX10_goOutFrom 6 none 2 (QV LX D cy ad) [.ref (ad 18), .ref (ad q1), .int x2] M (fX10_goOutFrom n0 q1 x2 M) :=
  CT.mk LXok hI (by decide) (Nat.le_of_ble_eq_true rfl) (fun hO => tfX10_goOutFrom n0 q1 hq1 hO x2 M)
/-! X10_canBeAt -/
def fX10_canBeAt (n0 : Nat) (x1 : Int32) (x2 : Int32) (M : Mem) : Option (Int32 × Mem) :=
  if x2 < 0 then
    some ((0 : Int32), M)
  else
    if (60 : Int32) < x2 then
      some ((0 : Int32), M)
    else
      if oob x2 61 then none else
      if (((gA M 20 (Int32.toNatClampNeg x2)) >>> (x1 &&& 31)) &&& (1 : Int32)) = (1 : Int32) then
        some ((1 : Int32), M)
      else
        some ((0 : Int32), M)
theorem tfX10_canBeAt (n0 : Nat) (hO : OKc p (rmL 1) s m args meth c LX D cy ad cX10_canBeAt RX10 3 1 (some .boolean)) (x1 : Int32) (x2 : Int32) (M : Mem) : BL p l e (rmL 1) s m args below meth c LX D cy ad 3 (QI LX D cy ad) 0 [(0, .ref (ad 18)), (1, .int x1), (2, .int x2)] [] M (fX10_canBeAt n0 x1 x2 M) := by
  unfold fX10_canBeAt
  refine b_iload_n hO dX10_canBeAt_0 2 rfl rfl ?_
  refine b_if_lt hO dX10_canBeAt_1 (tgt := 28) (by decide) ?_ ?_
  · refine b_iconst hO dX10_canBeAt_28 ic_i_0 ?_
    exact b_zretc hO (Or.inl rfl) dX10_canBeAt_29
  · refine b_iload_n hO dX10_canBeAt_4 2 rfl rfl ?_
    refine b_bipush hO dX10_canBeAt_5 ic_b_60 ?_
    refine b_icmp_gt hO dX10_canBeAt_7 (tgt := 28) (by decide) ?_ ?_
    · refine b_iconst hO dX10_canBeAt_28 ic_i_0 ?_
      exact b_zretc hO (Or.inl rfl) dX10_canBeAt_29
    · refine b_aload_n hO dX10_canBeAt_10 0 rfl rfl ?_
      refine b_get hO flX10_15 kLX_18 (v := .ref (ad 20)) rfl dX10_canBeAt_11 ?_
      refine b_iload_n hO dX10_canBeAt_14 2 rfl rfl ?_
      refine b_iald hO kLX_20 (n := 61) rfl dX10_canBeAt_15 ?_
      refine b_iload_n hO dX10_canBeAt_16 1 rfl rfl ?_
      refine b_ishr hO dX10_canBeAt_17 ?_
      refine b_iconst hO dX10_canBeAt_18 ic_i_1 ?_
      refine b_iand hO dX10_canBeAt_19 ?_
      refine b_iconst hO dX10_canBeAt_20 ic_i_1 ?_
      refine b_icmp_ne hO dX10_canBeAt_21 (tgt := 28) (by decide) ?_ ?_
      · refine b_iconst hO dX10_canBeAt_28 ic_i_0 ?_
        exact b_zretc hO (Or.inl rfl) dX10_canBeAt_29
      · refine b_iconst hO dX10_canBeAt_24 ic_i_1 ?_
        refine b_goto hO dX10_canBeAt_25 (tgt := 29) (by decide) ?_
        exact b_zretc hO (Or.inr rfl) dX10_canBeAt_29
theorem ctX10_canBeAt (n0 : Nat) (hI : Inj LX ad) (x1 : Int32) (x2 : Int32) (M : Mem) : CT l LX D cy ad yX10_canBeAt cX10_canBeAt 3 (some .boolean) 1 (QI LX D cy ad) [.ref (ad 18), .int x1, .int x2] M (fX10_canBeAt n0 x1 x2 M) :=
  CT.mk LXok hI (by decide) (Nat.le_of_ble_eq_true rfl) (fun hO => tfX10_canBeAt n0 hO x1 x2 M)
end
