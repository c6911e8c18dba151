section
variable {p : Program} {l : Launch} {e : Env} {s : State} {m : MethodId} {args : Array Value} {below : List Frame} {meth : Method} {c : Code} {D : va_G} {cy : Nat → ClassId} {ad : Nat → Nat} {dd : Nat}

/-! X11_minutes -/
def fX11_minutes_19 (n0 : Nat) (M : Mem) : Option (Int32 × Mem) :=
  (fX11_refuse n0 (2 : Int32) M).bind fun z21 =>
  some (z21.1, z21.2)
def bX11_minutes_40 (n0 : Nat) (k40 : Int32 → Int32 → Int32 → Mem → Option (Int32 × Mem)) (x1 : Int32) (x2 : Int32) (x3 : Int32) (M : Mem) : Option (Int32 × Mem) :=
  if x1 ≤ x3 then
    some (x2, M)
  else
    (fX6_goOn n0 M).bind fun z53 =>
    (fX6_doWhatIsDue n0 z53).bind fun z65 =>
    bnd (x2 + z65.1) fun x2_69 =>
    k40 x1 x2_69 (x3 + (1 : Int32)) z65.2
def fX11_minutes_40 (n0 : Nat) : Int32 → Int32 → Int32 → Mem → Option (Int32 × Mem) := loopN (bX11_minutes_40 n0) (fun _ _ _ _ => none) n0
def fX11_minutes (n0 : Nat) (x1 : Int32) (M : Mem) : Option (Int32 × Mem) :=
  if x1 < (1 : Int32) then
    fX11_minutes_19 n0 M
  else
    if (100 : Int32) < x1 then
      fX11_minutes_19 n0 M
    else
      (fX11_isBeyond n0 x1 M).bind fun z13 =>
      if z13.1 = 0 then
        (fX2_remember n0 z13.2).bind fun z33 =>
        fX11_minutes_40 n0 x1 (0 : Int32) (0 : Int32) z33
      else
        fX11_minutes_19 n0 z13.2
theorem tfX11_minutes_19 (n0 : Nat) (hO : OKc p (rmL 7) s m args meth c LX D cy ad cX11_minutes RX11 4 7 (some .int)) (M : Mem) : BL p l e (rmL 7) s m args below meth c LX D cy ad 4 (QI LX D cy ad) 19 [(0, .ref (ad 0))] [] M (fX11_minutes_19 n0 M) := by
  unfold fX11_minutes_19
  refine b_aload_n hO dX11_minutes_19 0 rfl rfl ?_
  refine b_iconst hO dX11_minutes_20 ic_i_2 ?_
  refine b_callVI hO mdX11_refuse mvX11_refuse w671 (ci := 11) rfl rfl (by decide) kLX_0 (As := [.int _]) (st := []) (ctX11_refuse n0 hO.2.2.2.2.2.2.1 _ _) (Nat.le_of_ble_eq_true rfl) rfl rfl (Nat.le_of_ble_eq_true rfl) dX11_minutes_21 (fun z21 => ?_)
  exact b_iret hO dX11_minutes_24
theorem tbX11_minutes_40 (n0 : Nat) (hO : OKc p (rmL 7) s m args meth c LX D cy ad cX11_minutes RX11 4 7 (some .int)) (k40 : Int32 → Int32 → Int32 → Mem → Option (Int32 × Mem)) (hk40 : ∀ (x1 : Int32) (x2 : Int32) (x3 : Int32) (M : Mem), BL p l e (rmL 7) s m args below meth c LX D cy ad 4 (QI LX D cy ad) 40 [(0, .ref (ad 0)), (1, .int x1), (2, .int x2), (3, .int x3)] [] M (k40 x1 x2 x3 M)) (x1 : Int32) (x2 : Int32) (x3 : Int32) (M : Mem) : BL p l e (rmL 7) s m args below meth c LX D cy ad 4 (QI LX D cy ad) 40 [(0, .ref (ad 0)), (1, .int x1), (2, .int x2), (3, .int x3)] [] M (bX11_minutes_40 n0 k40 x1 x2 x3 M) := by
  unfold bX11_minutes_40
  refine b_iload_n hO dX11_minutes_40 3 rfl rfl ?_
  refine b_iload_n hO dX11_minutes_41 1 rfl rfl ?_
  refine b_icmp_ge hO dX11_minutes_42 (tgt := 76) (by decide) ?_ ?_
  · refine b_iload_n hO dX11_minutes_76 2 rfl rfl ?_
    exact b_iret hO dX11_minutes_77
  · refine b_aload_n hO dX11_minutes_45 0 rfl rfl ?_
    refine b_get hO flX11_47 kLX_0 (v := .ref (ad 10)) rfl dX11_minutes_46 ?_
    refine b_aload_n hO dX11_minutes_49 0 rfl rfl ?_
    refine b_get hO flX11_40 kLX_0 (v := .ref (ad 7)) rfl dX11_minutes_50 ?_
    refine b_callVV hO mdX6_goOn mvX6_goOn w1140 (ci := 6) rfl rfl (by decide) kLX_10 (As := [.ref _]) (st := []) (ctX6_goOn n0 hO.2.2.2.2.2.2.1 _) (Nat.le_of_ble_eq_true rfl) rfl rfl (Nat.le_of_ble_eq_true rfl) dX11_minutes_53 (fun z53 => ?_)
    refine b_iload_n hO dX11_minutes_56 2 rfl rfl ?_
    refine b_aload_n hO dX11_minutes_57 0 rfl rfl ?_
    refine b_get hO flX11_47 kLX_0 (v := .ref (ad 10)) rfl dX11_minutes_58 ?_
    refine b_aload_n hO dX11_minutes_61 0 rfl rfl ?_
    refine b_get hO flX11_40 kLX_0 (v := .ref (ad 7)) rfl dX11_minutes_62 ?_
    refine b_callVI hO mdX6_doWhatIsDue mvX6_doWhatIsDue w552 (ci := 6) rfl rfl (by decide) kLX_10 (As := [.ref _]) (st := [.int _]) (ctX6_doWhatIsDue n0 hO.2.2.2.2.2.2.1 _) (Nat.le_of_ble_eq_true rfl) rfl rfl (Nat.le_of_ble_eq_true rfl) dX11_minutes_65 (fun z65 => ?_)
    refine b_iadd hO dX11_minutes_68 ?_
    refine b_topI (fun x2_69 => ?_)
    refine b_istore_n hO dX11_minutes_69 rfl (by decide) (lv' := [(2, .int _), (0, .ref _), (1, .int _), (3, .int _)]) rfl ?_
    refine b_iinc hO dX11_minutes_70 3 rfl ic_i_1 (by decide) (lv' := [(3, .int _), (2, .int _), (0, .ref _), (1, .int _)]) rfl ?_
    refine b_goto hO dX11_minutes_73 (tgt := 40) (by decide) ?_
    refine b_sub [2, 3, 1, 0] rfl ?_
    exact hk40 _ _ _ _
theorem lX11_minutes_40 (n0 : Nat) (hO : OKc p (rmL 7) s m args meth c LX D cy ad cX11_minutes RX11 4 7 (some .int)) : ∀ (w : Nat) (x1 : Int32) (x2 : Int32) (x3 : Int32) (M : Mem), BL p l e (rmL 7) s m args below meth c LX D cy ad 4 (QI LX D cy ad) 40 [(0, .ref (ad 0)), (1, .int x1), (2, .int x2), (3, .int x3)] [] M (loopN (bX11_minutes_40 n0) (fun _ _ _ _ => none) w x1 x2 x3 M) := by
  intro w
  induction w with
  | zero =>
    intros
    exact b_none
  | succ w ih =>
    intro x1 x2 x3 M
    exact tbX11_minutes_40 n0 hO _ ih x1 x2 x3 M
theorem tfX11_minutes_40 (n0 : Nat) (hO : OKc p (rmL 7) s m args meth c LX D cy ad cX11_minutes RX11 4 7 (some .int)) (x1 : Int32) (x2 : Int32) (x3 : Int32) (M : Mem) : BL p l e (rmL 7) s m args below meth c LX D cy ad 4 (QI LX D cy ad) 40 [(0, .ref (ad 0)), (1, .int x1), (2, .int x2), (3, .int x3)] [] M (fX11_minutes_40 n0 x1 x2 x3 M) := lX11_minutes_40 n0 hO n0 x1 x2 x3 M
theorem tfX11_minutes (n0 : Nat) (hO : OKc p (rmL 7) s m args meth c LX D cy ad cX11_minutes RX11 4 7 (some .int)) (x1 : Int32) (M : Mem) : BL p l e (rmL 7) s m args below meth c LX D cy ad 4 (QI LX D cy ad) 0 [(0, .ref (ad 0)), (1, .int x1)] [] M (fX11_minutes n0 x1 M) := by
  unfold fX11_minutes
  refine b_iload_n hO dX11_minutes_0 1 rfl rfl ?_
  refine b_iconst hO dX11_minutes_1 ic_i_1 ?_
  refine b_icmp_lt hO dX11_minutes_2 (tgt := 19) (by decide) ?_ ?_
  · refine b_sub [0] rfl ?_
    exact tfX11_minutes_19 n0 hO _
  · refine b_iload_n hO dX11_minutes_5 1 rfl rfl ?_
    refine b_bipush hO dX11_minutes_6 ic_b_100 ?_
    refine b_icmp_gt hO dX11_minutes_8 (tgt := 19) (by decide) ?_ ?_
    · refine b_sub [0] rfl ?_
      exact tfX11_minutes_19 n0 hO _
    · refine b_aload_n hO dX11_minutes_11 0 rfl rfl ?_
      refine b_iload_n hO dX11_minutes_12 1 rfl rfl ?_
      refine b_callVI hO mdX11_isBeyond mvX11_isBeyond w962 (ci := 11) rfl rfl (by decide) kLX_0 (As := [.int _]) (st := []) (ctX11_isBeyond n0 hO.2.2.2.2.2.2.1 _ _) (Nat.le_of_ble_eq_true rfl) rfl rfl (Nat.le_of_ble_eq_true rfl) dX11_minutes_13 (fun z13 => ?_)
      refine b_if_eq hO dX11_minutes_16 (tgt := 25) (by decide) ?_ ?_
      · refine b_aload_n hO dX11_minutes_25 0 rfl rfl ?_
        refine b_get hO flX11_54 kLX_0 (v := .ref (ad 16)) rfl dX11_minutes_26 ?_
        refine b_aload_n hO dX11_minutes_29 0 rfl rfl ?_
        refine b_get hO flX11_47 kLX_0 (v := .ref (ad 10)) rfl dX11_minutes_30 ?_
        refine b_callVV hO mdX2_remember mvX2_remember w1128 (ci := 2) rfl rfl (by decide) kLX_16 (As := [.ref _]) (st := []) (ctX2_remember n0 hO.2.2.2.2.2.2.1 _) (Nat.le_of_ble_eq_true rfl) rfl rfl (Nat.le_of_ble_eq_true rfl) dX11_minutes_33 (fun z33 => ?_)
        refine b_iconst hO dX11_minutes_36 ic_i_0 ?_
        refine b_istore_n hO dX11_minutes_37 rfl (by decide) (lv' := [(2, .int _), (0, .ref _), (1, .int _)]) rfl ?_
        refine b_iconst hO dX11_minutes_38 ic_i_0 ?_
        refine b_istore_n hO dX11_minutes_39 rfl (by decide) (lv' := [(3, .int _), (2, .int _), (0, .ref _), (1, .int _)]) rfl ?_
        refine b_sub [2, 3, 1, 0] rfl ?_
        exact tfX11_minutes_40 n0 hO _ _ _ _
      · refine b_sub [0] rfl ?_
        exact tfX11_minutes_19 n0 hO _
theorem ctX11_minutes (n0 : Nat) (hI : Inj LX ad) (x1 : Int32) (M : Mem) : CT l LX D cy ad yX11_minutes cX11_minutes 4 (some .int) 7 (QI LX D cy ad) [.ref (ad 0), .int x1] M (fX11_minutes n0 x1 M) :=
  CT.mk LXok hI (by decide) (Nat.le_of_ble_eq_true rfl) (fun hO => tfX11_minutes n0 hO x1 M)
/-! X11_draw -/
def fX11_draw (n0 : Nat) (x1 : Int32) (M : Mem) : Option (Int32 × Mem) :=
  bnd (sI M 17 (((((1103515245 : Int64) * ((gI M 17)).toInt64) + (12345 : Int64)) &&& (2147483647 : Int64))).toInt32) fun M19 =>
  if x1 ≤ 0 then
    some ((0 : Int32), M19)
  else
    if (64 : Int32) = 0 then none else
    if x1 = 0 then none else
    some ((rem32 ((gI M19 17) / (64 : Int32)) x1), M19)
theorem tfX11_draw (n0 : Nat) (hO : OKc p (rmL 1) s m args meth c LX D cy ad cX11_draw RX11 2 1 (some .int)) (x1 : Int32) (M : Mem) : BL p l e (rmL 1) s m args below meth c LX D cy ad 2 (QI LX D cy ad) 0 [(0, .ref (ad 0)), (1, .int x1)] [] M (fX11_draw n0 x1 M) := by
  unfold fX11_draw
  refine b_aload_n hO dX11_draw_0 0 rfl rfl ?_
  refine b_ldc2 hO w1158 dX11_draw_1 ?_
  refine b_aload_n hO dX11_draw_4 0 rfl rfl ?_
  refine b_get hO flX11_98 kLX_0 (v := .int (gI _ 17)) rfl dX11_draw_5 ?_
  refine b_i2l hO dX11_draw_8 ?_
  refine b_lmul hO dX11_draw_9 ?_
  refine b_ldc2 hO w1159 dX11_draw_10 ?_
  refine b_ladd hO dX11_draw_13 ?_
  refine b_ldc2 hO w1160 dX11_draw_14 ?_
  refine b_land hO dX11_draw_17 ?_
  refine b_l2i hO dX11_draw_18 ?_
  refine b_putI hO flX11_98 kLX_0 rfl rfl rfl (id := 17) rfl dX11_draw_19 ?_
  refine b_bnd (fun M19 => ?_)
  refine b_iload_n hO dX11_draw_22 1 rfl rfl ?_
  refine b_if_le hO dX11_draw_23 (tgt := 38) (by decide) ?_ ?_
  · refine b_iconst hO dX11_draw_38 ic_i_0 ?_
    exact b_iret hO dX11_draw_39
  · refine b_aload_n hO dX11_draw_26 0 rfl rfl ?_
    refine b_get hO flX11_98 kLX_0 (v := .int (gI _ 17)) rfl dX11_draw_27 ?_
    refine b_bipush hO dX11_draw_30 ic_b_64 ?_
    refine b_idiv hO dX11_draw_32 ?_
    refine b_iload_n hO dX11_draw_33 1 rfl rfl ?_
    refine b_irem hO dX11_draw_34 ?_
    refine b_goto hO dX11_draw_35 (tgt := 39) (by decide) ?_
    exact b_iret hO dX11_draw_39
theorem ctX11_draw (n0 : Nat) (hI : Inj LX ad) (x1 : Int32) (M : Mem) : CT l LX D cy ad yX11_draw cX11_draw 2 (some .int) 1 (QI LX D cy ad) [.ref (ad 0), .int x1] M (fX11_draw n0 x1 M) :=
  CT.mk LXok hI (by decide) (Nat.le_of_ble_eq_true rfl) (fun hO => tfX11_draw n0 hO x1 M)
/-! X11_letPass -/
def fX11_letPass (n0 : Nat) (M : Mem) : Option (Int32 × Mem) :=
  (fX11_draw n0 (100 : Int32) M).bind fun z3 =>
  if (gI z3.2 (128 * (gR z3.2 1) + 16)) ≤ z3.1 then
    some ((0 : Int32), z3.2)
  else
    if (gI z3.2 (128 * (gR z3.2 1) + 5)) = 0 then
      some ((0 : Int32), z3.2)
    else
      if (gI z3.2 (128 * (gR z3.2 1) + 1)) = 0 then
        some ((0 : Int32), z3.2)
      else
        (fX11_draw n0 (gI z3.2 (128 * (gR z3.2 1) + 5)) z3.2).bind fun z46 =>
        (fX11_draw n0 (gI z46.2 (128 * (gR z46.2 1) + 1)) z46.2).bind fun z63 =>
        (fX6_put n0 z46.1 z63.1 z63.2).bind fun z66 =>
        some ((1 : Int32), z66)
theorem tfX11_letPass (n0 : Nat) (hO : OKc p (rmL 2) s m args meth c LX D cy ad cX11_letPass RX11 2 2 (some .int)) (M : Mem) : BL p l e (rmL 2) s m args below meth c LX D cy ad 2 (QI LX D cy ad) 0 [(0, .ref (ad 0))] [] M (fX11_letPass n0 M) := by
  unfold fX11_letPass
  refine b_aload_n hO dX11_letPass_0 0 rfl rfl ?_
  refine b_bipush hO dX11_letPass_1 ic_b_100 ?_
  refine b_callVI hO mdX11_draw mvX11_draw w1154 (ci := 11) rfl rfl (by decide) kLX_0 (As := [.int _]) (st := []) (ctX11_draw n0 hO.2.2.2.2.2.2.1 _ _) (Nat.le_of_ble_eq_true rfl) rfl rfl (Nat.le_of_ble_eq_true rfl) dX11_letPass_3 (fun z3 => ?_)
  refine b_aload_n hO dX11_letPass_6 0 rfl rfl ?_
  refine b_getR hO flX11_19 kLX_0 (id := 1) rfl rfl (rk := 9) rfl (by decide) dX11_letPass_7 (fun hg1 => ?_)
  refine b_get hO flX11_346 hg1 (v := .int (gI _ (128 * (gR z3.2 1) + 16))) rfl dX11_letPass_10 ?_
  refine b_icmp_ge hO dX11_letPass_13 (tgt := 36) (by decide) ?_ ?_
  · refine b_iconst hO dX11_letPass_36 ic_i_0 ?_
    exact b_iret hO dX11_letPass_37
  · refine b_aload_n hO dX11_letPass_16 0 rfl rfl ?_
    refine b_getR hO flX11_19 kLX_0 (id := 1) rfl rfl (rk := 9) rfl (by decide) dX11_letPass_17 (fun hg2 => ?_)
    refine b_get hO flX11_139 hg2 (v := .int (gI _ (128 * (gR z3.2 1) + 5))) rfl dX11_letPass_20 ?_
    refine b_if_eq hO dX11_letPass_23 (tgt := 36) (by decide) ?_ ?_
    · refine b_iconst hO dX11_letPass_36 ic_i_0 ?_
      exact b_iret hO dX11_letPass_37
    · refine b_aload_n hO dX11_letPass_26 0 rfl rfl ?_
      refine b_getR hO flX11_19 kLX_0 (id := 1) rfl rfl (rk := 9) rfl (by decide) dX11_letPass_27 (fun hg3 => ?_)
      refine b_get hO flX11_136 hg3 (v := .int (gI _ (128 * (gR z3.2 1) + 1))) rfl dX11_letPass_30 ?_
      refine b_if_ne hO dX11_letPass_33 (tgt := 38) (by decide) ?_ ?_
      · refine b_aload_n hO dX11_letPass_38 0 rfl rfl ?_
        refine b_aload_n hO dX11_letPass_39 0 rfl rfl ?_
        refine b_getR hO flX11_19 kLX_0 (id := 1) rfl rfl (rk := 9) rfl (by decide) dX11_letPass_40 (fun hg4 => ?_)
        refine b_get hO flX11_139 hg4 (v := .int (gI _ (128 * (gR z3.2 1) + 5))) rfl dX11_letPass_43 ?_
        refine b_callVI hO mdX11_draw mvX11_draw w1154 (ci := 11) rfl rfl (by decide) kLX_0 (As := [.int _]) (st := []) (ctX11_draw n0 hO.2.2.2.2.2.2.1 _ _) (Nat.le_of_ble_eq_true rfl) rfl rfl (Nat.le_of_ble_eq_true rfl) dX11_letPass_46 (fun z46 => ?_)
        refine b_istore_n hO dX11_letPass_49 rfl (by decide) (lv' := [(1, .int _), (0, .ref _)]) rfl ?_
        refine b_aload_n hO dX11_letPass_50 1 rfl rfl ?_
        refine b_get hO flX11_47 kLX_0 (v := .ref (ad 10)) rfl dX11_letPass_51 ?_
        refine b_iload_n hO dX11_letPass_54 0 rfl rfl ?_
        refine b_aload_n hO dX11_letPass_55 1 rfl rfl ?_
        refine b_aload_n hO dX11_letPass_56 1 rfl rfl ?_
        refine b_getR hO flX11_19 kLX_0 (id := 1) rfl rfl (rk := 9) rfl (by decide) dX11_letPass_57 (fun hg5 => ?_)
        refine b_get hO flX11_136 hg5 (v := .int (gI _ (128 * (gR z46.2 1) + 1))) rfl dX11_letPass_60 ?_
        refine b_callVI hO mdX11_draw mvX11_draw w1154 (ci := 11) rfl rfl (by decide) kLX_0 (As := [.int _]) (st := [.int _, .ref _]) (ctX11_draw n0 hO.2.2.2.2.2.2.1 _ _) (Nat.le_of_ble_eq_true rfl) rfl rfl (Nat.le_of_ble_eq_true rfl) dX11_letPass_63 (fun z63 => ?_)
        refine b_callVV hO mdX6_put mvX6_put w1161 (ci := 6) rfl rfl (by decide) kLX_10 (As := [.int _, .int _]) (st := []) (ctX6_put n0 hO.2.2.2.2.2.2.1 _ _ _) (Nat.le_of_ble_eq_true rfl) rfl rfl (Nat.le_of_ble_eq_true rfl) dX11_letPass_66 (fun z66 => ?_)
        refine b_iconst hO dX11_letPass_69 ic_i_1 ?_
        exact b_iret hO dX11_letPass_70
      · refine b_iconst hO dX11_letPass_36 ic_i_0 ?_
        exact b_iret hO dX11_letPass_37
theorem ctX11_letPass (n0 : Nat) (hI : Inj LX ad) (M : Mem) : CT l LX D cy ad yX11_letPass cX11_letPass 2 (some .int) 2 (QI LX D cy ad) [.ref (ad 0)] M (fX11_letPass n0 M) :=
  CT.mk LXok hI (by decide) (Nat.le_of_ble_eq_true rfl) (fun hO => tfX11_letPass n0 hO M)
/-! X11_chance -/
def fX11_chance_19 (n0 : Nat) (M : Mem) : Option (Int32 × Mem) :=
  (fX11_refuse n0 (2 : Int32) M).bind fun z21 =>
  some (z21.1, z21.2)
def bX11_chance_40 (n0 : Nat) (k40 : Int32 → Int32 → Int32 → Mem → Option (Int32 × Mem)) (x1 : Int32) (x2 : Int32) (x3 : Int32) (M : Mem) : Option (Int32 × Mem) :=
  if x1 ≤ x3 then
    some (x2, M)
  else
    (fX6_goOn n0 M).bind fun z53 =>
    (fX11_letPass n0 z53).bind fun z58 =>
    bnd (x2 + z58.1) fun x2_62 =>
    (fX6_doWhatIsDue n0 z58.2).bind fun z71 =>
    k40 x1 x2_62 (x3 + (1 : Int32)) z71.2
def fX11_chance_40 (n0 : Nat) : Int32 → Int32 → Int32 → Mem → Option (Int32 × Mem) := loopN (bX11_chance_40 n0) (fun _ _ _ _ => none) n0
def fX11_chance (n0 : Nat) (x1 : Int32) (M : Mem) : Option (Int32 × Mem) :=
  if x1 < (1 : Int32) then
    fX11_chance_19 n0 M
  else
    if (100 : Int32) < x1 then
      fX11_chance_19 n0 M
    else
      (fX11_isBeyond n0 x1 M).bind fun z13 =>
      if z13.1 = 0 then
        (fX2_remember n0 z13.2).bind fun z33 =>
        fX11_chance_40 n0 x1 (0 : Int32) (0 : Int32) z33
      else
        fX11_chance_19 n0 z13.2
theorem tfX11_chance_19 (n0 : Nat) (hO : OKc p (rmL 7) s m args meth c LX D cy ad cX11_chance RX11 4 7 (some .int)) (M : Mem) : BL p l e (rmL 7) s m args below meth c LX D cy ad 4 (QI LX D cy ad) 19 [(0, .ref (ad 0))] [] M (fX11_chance_19 n0 M) := by
  unfold fX11_chance_19
  refine b_aload_n hO dX11_chance_19 0 rfl rfl ?_
  refine b_iconst hO dX11_chance_20 ic_i_2 ?_
  refine b_callVI hO mdX11_refuse mvX11_refuse w671 (ci := 11) rfl rfl (by decide) kLX_0 (As := [.int _]) (st := []) (ctX11_refuse n0 hO.2.2.2.2.2.2.1 _ _) (Nat.le_of_ble_eq_true rfl) rfl rfl (Nat.le_of_ble_eq_true rfl) dX11_chance_21 (fun z21 => ?_)
  exact b_iret hO dX11_chance_24
theorem tbX11_chance_40 (n0 : Nat) (hO : OKc p (rmL 7) s m args meth c LX D cy ad cX11_chance RX11 4 7 (some .int)) (k40 : Int32 → Int32 → Int32 → Mem → Option (Int32 × Mem)) (hk40 : ∀ (x1 : Int32) (x2 : Int32) (x3 : Int32) (M : Mem), BL p l e (rmL 7) s m args below meth c LX D cy ad 4 (QI LX D cy ad) 40 [(0, .ref (ad 0)), (1, .int x1), (2, .int x2), (3, .int x3)] [] M (k40 x1 x2 x3 M)) (x1 : Int32) (x2 : Int32) (x3 : Int32) (M : Mem) : BL p l e (rmL 7) s m args below meth c LX D cy ad 4 (QI LX D cy ad) 40 [(0, .ref (ad 0)), (1, .int x1), (2, .int x2), (3, .int x3)] [] M (bX11_chance_40 n0 k40 x1 x2 x3 M) := by
  unfold bX11_chance_40
  refine b_iload_n hO dX11_chance_40 3 rfl rfl ?_
  refine b_iload_n hO dX11_chance_41 1 rfl rfl ?_
  refine b_icmp_ge hO dX11_chance_42 (tgt := 81) (by decide) ?_ ?_
  · refine b_iload_n hO dX11_chance_81 2 rfl rfl ?_
    exact b_iret hO dX11_chance_82
  · refine b_aload_n hO dX11_chance_45 0 rfl rfl ?_
    refine b_get hO flX11_47 kLX_0 (v := .ref (ad 10)) rfl dX11_chance_46 ?_
    refine b_aload_n hO dX11_chance_49 0 rfl rfl ?_
    refine b_get hO flX11_40 kLX_0 (v := .ref (ad 7)) rfl dX11_chance_50 ?_
    refine b_callVV hO mdX6_goOn mvX6_goOn w1140 (ci := 6) rfl rfl (by decide) kLX_10 (As := [.ref _]) (st := []) (ctX6_goOn n0 hO.2.2.2.2.2.2.1 _) (Nat.le_of_ble_eq_true rfl) rfl rfl (Nat.le_of_ble_eq_true rfl) dX11_chance_53 (fun z53 => ?_)
    refine b_iload_n hO dX11_chance_56 2 rfl rfl ?_
    refine b_aload_n hO dX11_chance_57 0 rfl rfl ?_
    refine b_callVI hO mdX11_letPass mvX11_letPass w1150 (ci := 11) rfl rfl (by decide) kLX_0 (As := []) (st := [.int _]) (ctX11_letPass n0 hO.2.2.2.2.2.2.1 _) (Nat.le_of_ble_eq_true rfl) rfl rfl (Nat.le_of_ble_eq_true rfl) dX11_chance_58 (fun z58 => ?_)
    refine b_iadd hO dX11_chance_61 ?_
    refine b_topI (fun x2_62 => ?_)
    refine b_istore_n hO dX11_chance_62 rfl (by decide) (lv' := [(2, .int _), (0, .ref _), (1, .int _), (3, .int _)]) rfl ?_
    refine b_aload_n hO dX11_chance_63 1 rfl rfl ?_
    refine b_get hO flX11_47 kLX_0 (v := .ref (ad 10)) rfl dX11_chance_64 ?_
    refine b_aload_n hO dX11_chance_67 1 rfl rfl ?_
    refine b_get hO flX11_40 kLX_0 (v := .ref (ad 7)) rfl dX11_chance_68 ?_
    refine b_callVI hO mdX6_doWhatIsDue mvX6_doWhatIsDue w552 (ci := 6) rfl rfl (by decide) kLX_10 (As := [.ref _]) (st := []) (ctX6_doWhatIsDue n0 hO.2.2.2.2.2.2.1 _) (Nat.le_of_ble_eq_true rfl) rfl rfl (Nat.le_of_ble_eq_true rfl) dX11_chance_71 (fun z71 => ?_)
    refine b_pop hO dX11_chance_74 rfl ?_
    refine b_iinc hO dX11_chance_75 3 rfl ic_i_1 (by decide) (lv' := [(3, .int _), (2, .int _), (0, .ref _), (1, .int _)]) rfl ?_
    refine b_goto hO dX11_chance_78 (tgt := 40) (by decide) ?_
    refine b_sub [2, 3, 1, 0] rfl ?_
    exact hk40 _ _ _ _
theorem lX11_chance_40 (n0 : Nat) (hO : OKc p (rmL 7) s m args meth c LX D cy ad cX11_chance RX11 4 7 (some .int)) : ∀ (w : Nat) (x1 : Int32) (x2 : Int32) (x3 : Int32) (M : Mem), BL p l e (rmL 7) s m args below meth c LX D cy ad 4 (QI LX D cy ad) 40 [(0, .ref (ad 0)), (1, .int x1), (2, .int x2), (3, .int x3)] [] M (loopN (bX11_chance_40 n0) (fun _ _ _ _ => none) w x1 x2 x3 M) := by
  intro w
  induction w with
  | zero =>
    intros
    exact b_none
  | succ w ih =>
    intro x1 x2 x3 M
    exact tbX11_chance_40 n0 hO _ ih x1 x2 x3 M
theorem tfX11_chance_40 (n0 : Nat) (hO : OKc p (rmL 7) s m args meth c LX D cy ad cX11_chance RX11 4 7 (some .int)) (x1 : Int32) (x2 : Int32) (x3 : Int32) (M : Mem) : BL p l e (rmL 7) s m args below meth c LX D cy ad 4 (QI LX D cy ad) 40 [(0, .ref (ad 0)), (1, .int x1), (2, .int x2), (3, .int x3)] [] M (fX11_chance_40 n0 x1 x2 x3 M) := lX11_chance_40 n0 hO n0 x1 x2 x3 M
theorem tfX11_chance (n0 : Nat) (hO : OKc p (rmL 7) s m args meth c LX D cy ad cX11_chance RX11 4 7 (some .int)) (x1 : Int32) (M : Mem) : BL p l e (rmL 7) s m args below meth c LX D cy ad 4 (QI LX D cy ad) 0 [(0, .ref (ad 0)), (1, .int x1)] [] M (fX11_chance n0 x1 M) := by
  unfold fX11_chance
  refine b_iload_n hO dX11_chance_0 1 rfl rfl ?_
  refine b_iconst hO dX11_chance_1 ic_i_1 ?_
  refine b_icmp_lt hO dX11_chance_2 (tgt := 19) (by decide) ?_ ?_
  · refine b_sub [0] rfl ?_
    exact tfX11_chance_19 n0 hO _
  · refine b_iload_n hO dX11_chance_5 1 rfl rfl ?_
    refine b_bipush hO dX11_chance_6 ic_b_100 ?_
    refine b_icmp_gt hO dX11_chance_8 (tgt := 19) (by decide) ?_ ?_
    · refine b_sub [0] rfl ?_
      exact tfX11_chance_19 n0 hO _
    · refine b_aload_n hO dX11_chance_11 0 rfl rfl ?_
      refine b_iload_n hO dX11_chance_12 1 rfl rfl ?_
      refine b_callVI hO mdX11_isBeyond mvX11_isBeyond w962 (ci := 11) rfl rfl (by decide) kLX_0 (As := [.int _]) (st := []) (ctX11_isBeyond n0 hO.2.2.2.2.2.2.1 _ _) (Nat.le_of_ble_eq_true rfl) rfl rfl (Nat.le_of_ble_eq_true rfl) dX11_chance_13 (fun z13 => ?_)
      refine b_if_eq hO dX11_chance_16 (tgt := 25) (by decide) ?_ ?_
      · refine b_aload_n hO dX11_chance_25 0 rfl rfl ?_
        refine b_get hO flX11_54 kLX_0 (v := .ref (ad 16)) rfl dX11_chance_26 ?_
        refine b_aload_n hO dX11_chance_29 0 rfl rfl ?_
        refine b_get hO flX11_47 kLX_0 (v := .ref (ad 10)) rfl dX11_chance_30 ?_
        refine b_callVV hO mdX2_remember mvX2_remember w1128 (ci := 2) rfl rfl (by decide) kLX_16 (As := [.ref _]) (st := []) (ctX2_remember n0 hO.2.2.2.2.2.2.1 _) (Nat.le_of_ble_eq_true rfl) rfl rfl (Nat.le_of_ble_eq_true rfl) dX11_chance_33 (fun z33 => ?_)
        refine b_iconst hO dX11_chance_36 ic_i_0 ?_
        refine b_istore_n hO dX11_chance_37 rfl (by decide) (lv' := [(2, .int _), (0, .ref _), (1, .int _)]) rfl ?_
        refine b_iconst hO dX11_chance_38 ic_i_0 ?_
        refine b_istore_n hO dX11_chance_39 rfl (by decide) (lv' := [(3, .int _), (2, .int _), (0, .ref _), (1, .int _)]) rfl ?_
        refine b_sub [2, 3, 1, 0] rfl ?_
        exact tfX11_chance_40 n0 hO _ _ _ _
      · refine b_sub [0] rfl ?_
        exact tfX11_chance_19 n0 hO _
theorem ctX11_chance (n0 : Nat) (hI : Inj LX ad) (x1 : Int32) (M : Mem) : CT l LX D cy ad yX11_chance cX11_chance 4 (some .int) 7 (QI LX D cy ad) [.ref (ad 0), .int x1] M (fX11_chance n0 x1 M) :=
  CT.mk LXok hI (by decide) (Nat.le_of_ble_eq_true rfl) (fun hO => tfX11_chance n0 hO x1 M)
/-! X11_putByAct -/
def fX11_putByAct (n0 : Nat) (x1 : Int32) (x2 : Int32) (M : Mem) : Option (Int32 × Mem) :=
  (fX2_remember n0 M).bind fun z8 =>
  (fX6_put n0 x1 x2 z8).bind fun z17 =>
  (fX6_doWhatIsDue n0 z17).bind fun z28 =>
  (fX11_hourAt n0 x1 z28.2).bind fun z34 =>
  some (z34.1, z34.2)
theorem tfX11_putByAct (n0 : Nat) (hO : OKc p (rmL 7) s m args meth c LX D cy ad cX11_putByAct RX11 3 7 (some .int)) (x1 : Int32) (x2 : Int32) (M : Mem) : BL p l e (rmL 7) s m args below meth c LX D cy ad 3 (QI LX D cy ad) 0 [(0, .ref (ad 0)), (1, .int x1), (2, .int x2)] [] M (fX11_putByAct n0 x1 x2 M) := by
  unfold fX11_putByAct
  refine b_aload_n hO dX11_putByAct_0 0 rfl rfl ?_
  refine b_get hO flX11_54 kLX_0 (v := .ref (ad 16)) rfl dX11_putByAct_1 ?_
  refine b_aload_n hO dX11_putByAct_4 0 rfl rfl ?_
  refine b_get hO flX11_47 kLX_0 (v := .ref (ad 10)) rfl dX11_putByAct_5 ?_
  refine b_callVV hO mdX2_remember mvX2_remember w1128 (ci := 2) rfl rfl (by decide) kLX_16 (As := [.ref _]) (st := []) (ctX2_remember n0 hO.2.2.2.2.2.2.1 _) (Nat.le_of_ble_eq_true rfl) rfl rfl (Nat.le_of_ble_eq_true rfl) dX11_putByAct_8 (fun z8 => ?_)
  refine b_aload_n hO dX11_putByAct_11 0 rfl rfl ?_
  refine b_get hO flX11_47 kLX_0 (v := .ref (ad 10)) rfl dX11_putByAct_12 ?_
  refine b_iload_n hO dX11_putByAct_15 1 rfl rfl ?_
  refine b_iload_n hO dX11_putByAct_16 2 rfl rfl ?_
  refine b_callVV hO mdX6_put mvX6_put w1161 (ci := 6) rfl rfl (by decide) kLX_10 (As := [.int _, .int _]) (st := []) (ctX6_put n0 hO.2.2.2.2.2.2.1 _ _ _) (Nat.le_of_ble_eq_true rfl) rfl rfl (Nat.le_of_ble_eq_true rfl) dX11_putByAct_17 (fun z17 => ?_)
  refine b_aload_n hO dX11_putByAct_20 0 rfl rfl ?_
  refine b_get hO flX11_47 kLX_0 (v := .ref (ad 10)) rfl dX11_putByAct_21 ?_
  refine b_aload_n hO dX11_putByAct_24 0 rfl rfl ?_
  refine b_get hO flX11_40 kLX_0 (v := .ref (ad 7)) rfl dX11_putByAct_25 ?_
  refine b_callVI hO mdX6_doWhatIsDue mvX6_doWhatIsDue w552 (ci := 6) rfl rfl (by decide) kLX_10 (As := [.ref _]) (st := []) (ctX6_doWhatIsDue n0 hO.2.2.2.2.2.2.1 _) (Nat.le_of_ble_eq_true rfl) rfl rfl (Nat.le_of_ble_eq_true rfl) dX11_putByAct_28 (fun z28 => ?_)
  refine b_pop hO dX11_putByAct_31 rfl ?_
  refine b_aload_n hO dX11_putByAct_32 0 rfl rfl ?_
  refine b_iload_n hO dX11_putByAct_33 1 rfl rfl ?_
  refine b_callVI hO mdX11_hourAt mvX11_hourAt w944 (ci := 11) rfl rfl (by decide) kLX_0 (As := [.int _]) (st := []) (ctX11_hourAt n0 hO.2.2.2.2.2.2.1 _ _) (Nat.le_of_ble_eq_true rfl) rfl rfl (Nat.le_of_ble_eq_true rfl) dX11_putByAct_34 (fun z34 => ?_)
  exact b_iret hO dX11_putByAct_37
theorem ctX11_putByAct (n0 : Nat) (hI : Inj LX ad) (x1 : Int32) (x2 : Int32) (M : Mem) : CT l LX D cy ad yX11_putByAct cX11_putByAct 3 (some .int) 7 (QI LX D cy ad) [.ref (ad 0), .int x1, .int x2] M (fX11_putByAct n0 x1 x2 M) :=
  CT.mk LXok hI (by decide) (Nat.le_of_ble_eq_true rfl) (fun hO => tfX11_putByAct n0 hO x1 x2 M)
/-! X11_give -/
def fX11_give_22 (n0 : Nat) (M : Mem) : Option (Int32 × Mem) :=
  (fX11_refuse n0 (3 : Int32) M).bind fun z24 =>
  some (z24.1, z24.2)
def fX11_give (n0 : Nat) (x1 : Int32) (x2 : Int32) (M : Mem) : Option (Int32 × Mem) :=
  (fX9_isCorner n0 (gR M 1) x1 M).bind fun z5 =>
  if z5.1 = 0 then
    fX11_give_22 n0 z5.2
  else
    (fX9_isThing n0 (gR z5.2 1) x2 z5.2).bind fun z16 =>
    if z16.1 = 0 then
      fX11_give_22 n0 z16.2
    else
      (fX11_putByAct n0 x1 x2 z16.2).bind fun z31 =>
      some (z31.1, z31.2)
theorem tfX11_give_22 (n0 : Nat) (hO : OKc p (rmL 8) s m args meth c LX D cy ad cX11_give RX11 3 8 (some .int)) (M : Mem) : BL p l e (rmL 8) s m args below meth c LX D cy ad 3 (QI LX D cy ad) 22 [(0, .ref (ad 0))] [] M (fX11_give_22 n0 M) := by
  unfold fX11_give_22
  refine b_aload_n hO dX11_give_22 0 rfl rfl ?_
  refine b_iconst hO dX11_give_23 ic_i_3 ?_
  refine b_callVI hO mdX11_refuse mvX11_refuse w671 (ci := 11) rfl rfl (by decide) kLX_0 (As := [.int _]) (st := []) (ctX11_refuse n0 hO.2.2.2.2.2.2.1 _ _) (Nat.le_of_ble_eq_true rfl) rfl rfl (Nat.le_of_ble_eq_true rfl) dX11_give_24 (fun z24 => ?_)
  exact b_iret hO dX11_give_27
theorem tfX11_give (n0 : Nat) (hO : OKc p (rmL 8) s m args meth c LX D cy ad cX11_give RX11 3 8 (some .int)) (x1 : Int32) (x2 : Int32) (M : Mem) : BL p l e (rmL 8) s m args below meth c LX D cy ad 3 (QI LX D cy ad) 0 [(0, .ref (ad 0)), (1, .int x1), (2, .int x2)] [] M (fX11_give n0 x1 x2 M) := by
  unfold fX11_give
  refine b_aload_n hO dX11_give_0 0 rfl rfl ?_
  refine b_getR hO flX11_19 kLX_0 (id := 1) rfl rfl (rk := 9) rfl (by decide) dX11_give_1 (fun hg1 => ?_)
  refine b_iload_n hO dX11_give_4 1 rfl rfl ?_
  refine b_callVI hO mdX9_isCorner mvX9_isCorner w928 (ci := 9) rfl rfl (by decide) hg1 (As := [.int _]) (st := []) (ctX9_isCorner n0 _ hg1 hO.2.2.2.2.2.2.1 _ _) (Nat.le_of_ble_eq_true rfl) rfl rfl (Nat.le_of_ble_eq_true rfl) dX11_give_5 (fun z5 => ?_)
  refine b_if_eq hO dX11_give_8 (tgt := 22) (by decide) ?_ ?_
  · refine b_sub [0] rfl ?_
    exact tfX11_give_22 n0 hO _
  · refine b_aload_n hO dX11_give_11 0 rfl rfl ?_
    refine b_getR hO flX11_19 kLX_0 (id := 1) rfl rfl (rk := 9) rfl (by decide) dX11_give_12 (fun hg2 => ?_)
    refine b_iload_n hO dX11_give_15 2 rfl rfl ?_
    refine b_callVI hO mdX9_isThing mvX9_isThing w924 (ci := 9) rfl rfl (by decide) hg2 (As := [.int _]) (st := []) (ctX9_isThing n0 _ hg2 hO.2.2.2.2.2.2.1 _ _) (Nat.le_of_ble_eq_true rfl) rfl rfl (Nat.le_of_ble_eq_true rfl) dX11_give_16 (fun z16 => ?_)
    refine b_if_ne hO dX11_give_19 (tgt := 28) (by decide) ?_ ?_
    · refine b_aload_n hO dX11_give_28 0 rfl rfl ?_
      refine b_iload_n hO dX11_give_29 1 rfl rfl ?_
      refine b_iload_n hO dX11_give_30 2 rfl rfl ?_
      refine b_callVI hO mdX11_putByAct mvX11_putByAct w1166 (ci := 11) rfl rfl (by decide) kLX_0 (As := [.int _, .int _]) (st := []) (ctX11_putByAct n0 hO.2.2.2.2.2.2.1 _ _ _) (Nat.le_of_ble_eq_true rfl) rfl rfl (Nat.le_of_ble_eq_true rfl) dX11_give_31 (fun z31 => ?_)
      exact b_iret hO dX11_give_34
    · refine b_sub [0] rfl ?_
      exact tfX11_give_22 n0 hO _
theorem ctX11_give (n0 : Nat) (hI : Inj LX ad) (x1 : Int32) (x2 : Int32) (M : Mem) : CT l LX D cy ad yX11_give cX11_give 3 (some .int) 8 (QI LX D cy ad) [.ref (ad 0), .int x1, .int x2] M (fX11_give n0 x1 x2 M) :=
  CT.mk LXok hI (by decide) (Nat.le_of_ble_eq_true rfl) (fun hO => tfX11_give n0 hO x1 x2 M)
/-! X11_take -/
def fX11_take_24 (n0 : Nat) (M : Mem) : Option (Int32 × Mem) :=
  (fX11_refuse n0 (3 : Int32) M).bind fun z26 =>
  some (z26.1, z26.2)
def fX11_take (n0 : Nat) (x1 : Int32) (M : Mem) : Option (Int32 × Mem) :=
  (fX9_isCorner n0 (gR M 1) x1 M).bind fun z5 =>
  if z5.1 = 0 then
    fX11_take_24 n0 z5.2
  else
    if oob x1 5 then none else
    if (gA z5.2 11 (Int32.toNatClampNeg x1)) = (-1 : Int32) then
      fX11_take_24 n0 z5.2
    else
      (fX11_putByAct n0 x1 (-1 : Int32) z5.2).bind fun z33 =>
      some (z33.1, z33.2)
theorem tfX11_take_24 (n0 : Nat) (hO : OKc p (rmL 8) s m args meth c LX D cy ad cX11_take RX11 2 8 (some .int)) (M : Mem) : BL p l e (rmL 8) s m args below meth c LX D cy ad 2 (QI LX D cy ad) 24 [(0, .ref (ad 0))] [] M (fX11_take_24 n0 M) := by
  unfold fX11_take_24
  refine b_aload_n hO dX11_take_24 0 rfl rfl ?_
  refine b_iconst hO dX11_take_25 ic_i_3 ?_
  refine b_callVI hO mdX11_refuse mvX11_refuse w671 (ci := 11) rfl rfl (by decide) kLX_0 (As := [.int _]) (st := []) (ctX11_refuse n0 hO.2.2.2.2.2.2.1 _ _) (Nat.le_of_ble_eq_true rfl) rfl rfl (Nat.le_of_ble_eq_true rfl) dX11_take_26 (fun z26 => ?_)
  exact b_iret hO dX11_take_29
theorem tfX11_take (n0 : Nat) (hO : OKc p (rmL 8) s m args meth c LX D cy ad cX11_take RX11 2 8 (some .int)) (x1 : Int32) (M : Mem) : BL p l e (rmL 8) s m args below meth c LX D cy ad 2 (QI LX D cy ad) 0 [(0, .ref (ad 0)), (1, .int x1)] [] M (fX11_take n0 x1 M) := by
  unfold fX11_take
  refine b_aload_n hO dX11_take_0 0 rfl rfl ?_
  refine b_getR hO flX11_19 kLX_0 (id := 1) rfl rfl (rk := 9) rfl (by decide) dX11_take_1 (fun hg1 => ?_)
  refine b_iload_n hO dX11_take_4 1 rfl rfl ?_
  refine b_callVI hO mdX9_isCorner mvX9_isCorner w928 (ci := 9) rfl rfl (by decide) hg1 (As := [.int _]) (st := []) (ctX9_isCorner n0 _ hg1 hO.2.2.2.2.2.2.1 _ _) (Nat.le_of_ble_eq_true rfl) rfl rfl (Nat.le_of_ble_eq_true rfl) dX11_take_5 (fun z5 => ?_)
  refine b_if_eq hO dX11_take_8 (tgt := 24) (by decide) ?_ ?_
  · refine b_sub [0] rfl ?_
    exact tfX11_take_24 n0 hO _
  · refine b_aload_n hO dX11_take_11 0 rfl rfl ?_
    refine b_get hO flX11_47 kLX_0 (v := .ref (ad 10)) rfl dX11_take_12 ?_
    refine b_get hO flX11_193 kLX_10 (v := .ref (ad 11)) rfl dX11_take_15 ?_
    refine b_iload_n hO dX11_take_18 1 rfl rfl ?_
    refine b_iald hO kLX_11 (n := 5) rfl dX11_take_19 ?_
    refine b_iconst hO dX11_take_20 ic_i_m1 ?_
    refine b_icmp_ne hO dX11_take_21 (tgt := 30) (by decide) ?_ ?_
    · refine b_aload_n hO dX11_take_30 0 rfl rfl ?_
      refine b_iload_n hO dX11_take_31 1 rfl rfl ?_
      refine b_iconst hO dX11_take_32 ic_i_m1 ?_
      refine b_callVI hO mdX11_putByAct mvX11_putByAct w1166 (ci := 11) rfl rfl (by decide) kLX_0 (As := [.int _, .int _]) (st := []) (ctX11_putByAct n0 hO.2.2.2.2.2.2.1 _ _ _) (Nat.le_of_ble_eq_true rfl) rfl rfl (Nat.le_of_ble_eq_true rfl) dX11_take_33 (fun z33 => ?_)
      exact b_iret hO dX11_take_36
    · refine b_sub [0] rfl ?_
      exact tfX11_take_24 n0 hO _
theorem ctX11_take (n0 : Nat) (hI : Inj LX ad) (x1 : Int32) (M : Mem) : CT l LX D cy ad yX11_take cX11_take 2 (some .int) 8 (QI LX D cy ad) [.ref (ad 0), .int x1] M (fX11_take n0 x1 M) :=
  CT.mk LXok hI (by decide) (Nat.le_of_ble_eq_true rfl) (fun hO => tfX11_take n0 hO x1 M)
/-! X11_undo -/
def fX11_undo (n0 : Nat) (M : Mem) : Option (Int32 × Mem) :=
  (fX2_bringBack n0 M).bind fun z8 =>
  if z8.1 = 0 then
    (fX11_refuse n0 (4 : Int32) z8.2).bind fun z16 =>
    some ((0 : Int32), z16.2)
  else
    some ((1 : Int32), z8.2)
theorem tfX11_undo (n0 : Nat) (hO : OKc p (rmL 3) s m args meth c LX D cy ad cX11_undo RX11 1 3 (some .boolean)) (M : Mem) : BL p l e (rmL 3) s m args below meth c LX D cy ad 1 (QI LX D cy ad) 0 [(0, .ref (ad 0))] [] M (fX11_undo n0 M) := by
  unfold fX11_undo
  refine b_aload_n hO dX11_undo_0 0 rfl rfl ?_
  refine b_get hO flX11_54 kLX_0 (v := .ref (ad 16)) rfl dX11_undo_1 ?_
  refine b_aload_n hO dX11_undo_4 0 rfl rfl ?_
  refine b_get hO flX11_47 kLX_0 (v := .ref (ad 10)) rfl dX11_undo_5 ?_
  refine b_callVI hO mdX2_bringBack mvX2_bringBack w1178 (ci := 2) rfl rfl (by decide) kLX_16 (As := [.ref _]) (st := []) (ctX2_bringBack n0 hO.2.2.2.2.2.2.1 _) (Nat.le_of_ble_eq_true rfl) rfl rfl (Nat.le_of_ble_eq_true rfl) dX11_undo_8 (fun z8 => ?_)
  refine b_if_ne hO dX11_undo_11 (tgt := 22) (by decide) ?_ ?_
  · refine b_iconst hO dX11_undo_22 ic_i_1 ?_
    exact b_zretc hO (Or.inr rfl) dX11_undo_23
  · refine b_aload_n hO dX11_undo_14 0 rfl rfl ?_
    refine b_iconst hO dX11_undo_15 ic_i_4 ?_
    refine b_callVI hO mdX11_refuse mvX11_refuse w671 (ci := 11) rfl rfl (by decide) kLX_0 (As := [.int _]) (st := []) (ctX11_refuse n0 hO.2.2.2.2.2.2.1 _ _) (Nat.le_of_ble_eq_true rfl) rfl rfl (Nat.le_of_ble_eq_true rfl) dX11_undo_16 (fun z16 => ?_)
    refine b_pop hO dX11_undo_19 rfl ?_
    refine b_iconst hO dX11_undo_20 ic_i_0 ?_
    exact b_zretc hO (Or.inl rfl) dX11_undo_21
theorem ctX11_undo (n0 : Nat) (hI : Inj LX ad) (M : Mem) : CT l LX D cy ad yX11_undo cX11_undo 1 (some .boolean) 3 (QI LX D cy ad) [.ref (ad 0)] M (fX11_undo n0 M) :=
  CT.mk LXok hI (by decide) (Nat.le_of_ble_eq_true rfl) (fun hO => tfX11_undo n0 hO M)
/-! X11_seed -/
def fX11_seed (n0 : Nat) (x1 : Int32) (M : Mem) : Option (Int32 × Mem) :=
  if 0 ≤ x1 then
    bnd (sI M 17 x1) fun M14 =>
    some ((1 : Int32), M14)
  else
    (fX11_refuse n0 (5 : Int32) M).bind fun z6 =>
    some ((0 : Int32), z6.2)
theorem tfX11_seed (n0 : Nat) (hO : OKc p (rmL 2) s m args meth c LX D cy ad cX11_seed RX11 2 2 (some .boolean)) (x1 : Int32) (M : Mem) : BL p l e (rmL 2) s m args below meth c LX D cy ad 2 (QI LX D cy ad) 0 [(0, .ref (ad 0)), (1, .int x1)] [] M (fX11_seed n0 x1 M) := by
  unfold fX11_seed
  refine b_iload_n hO dX11_seed_0 1 rfl rfl ?_
  refine b_if_ge hO dX11_seed_1 (tgt := 12) (by decide) ?_ ?_
  · refine b_aload_n hO dX11_seed_12 0 rfl rfl ?_
    refine b_iload_n hO dX11_seed_13 1 rfl rfl ?_
    refine b_putI hO flX11_98 kLX_0 rfl rfl rfl (id := 17) rfl dX11_seed_14 ?_
    refine b_bnd (fun M14 => ?_)
    refine b_iconst hO dX11_seed_17 ic_i_1 ?_
    exact b_zretc hO (Or.inr rfl) dX11_seed_18
  · refine b_aload_n hO dX11_seed_4 0 rfl rfl ?_
    refine b_iconst hO dX11_seed_5 ic_i_5 ?_
    refine b_callVI hO mdX11_refuse mvX11_refuse w671 (ci := 11) rfl rfl (by decide) kLX_0 (As := [.int _]) (st := []) (ctX11_refuse n0 hO.2.2.2.2.2.2.1 _ _) (Nat.le_of_ble_eq_true rfl) rfl rfl (Nat.le_of_ble_eq_true rfl) dX11_seed_6 (fun z6 => ?_)
    refine b_pop hO dX11_seed_9 rfl ?_
    refine b_iconst hO dX11_seed_10 ic_i_0 ?_
    exact b_zretc hO (Or.inl rfl) dX11_seed_11
theorem ctX11_seed (n0 : Nat) (hI : Inj LX ad) (x1 : Int32) (M : Mem) : CT l LX D cy ad yX11_seed cX11_seed 2 (some .boolean) 2 (QI LX D cy ad) [.ref (ad 0), .int x1] M (fX11_seed n0 x1 M) :=
  CT.mk LXok hI (by decide) (Nat.le_of_ble_eq_true rfl) (fun hO => tfX11_seed n0 hO x1 M)
/-! X11_kept -/
def fX11_kept (n0 : Nat) (x1 : Int32) (x2 : Int32) (M : Mem) : Option (Int32 × Mem) :=
  if x1 < 0 then
    some ((-1 : Int32), M)
  else
    if x1 < (gI M 1285) then
      if x2 = 0 then
        if oob x1 6 then none else
        some ((gA M 14 (Int32.toNatClampNeg x1)), M)
      else
      if x2 = 1 then
        if oob x1 6 then none else
        some ((gA M 15 (Int32.toNatClampNeg x1)), M)
      else
      some ((-1 : Int32), M)
    else
      some ((-1 : Int32), M)
theorem tfX11_kept (n0 : Nat) (hO : OKc p (rmL 1) s m args meth c LX D cy ad cX11_kept RX11 3 1 (some .int)) (x1 : Int32) (x2 : Int32) (M : Mem) : BL p l e (rmL 1) s m args below meth c LX D cy ad 3 (QI LX D cy ad) 0 [(0, .ref (ad 0)), (1, .int x1), (2, .int x2)] [] M (fX11_kept n0 x1 x2 M) := by
  unfold fX11_kept
  refine b_iload_n hO dX11_kept_0 1 rfl rfl ?_
  refine b_if_lt hO dX11_kept_1 (tgt := 15) (by decide) ?_ ?_
  · refine b_iconst hO dX11_kept_15 ic_i_m1 ?_
    exact b_iret hO dX11_kept_16
  · refine b_iload_n hO dX11_kept_4 1 rfl rfl ?_
    refine b_aload_n hO dX11_kept_5 0 rfl rfl ?_
    refine b_get hO flX11_47 kLX_0 (v := .ref (ad 10)) rfl dX11_kept_6 ?_
    refine b_get hO flX11_158 kLX_10 (v := .int (gI _ 1285)) rfl dX11_kept_9 ?_
    refine b_icmp_lt hO dX11_kept_12 (tgt := 17) (by decide) ?_ ?_
    · refine b_iload_n hO dX11_kept_17 2 rfl rfl ?_
      refine b_lookIn hO dX11_kept_18 (v := 0) (z := 0) (tgt := 44) (by decide) (by decide) rfl (by decide) ?_ (fun hn0 => ?_)
      · refine b_aload_n hO dX11_kept_44 0 rfl rfl ?_
        refine b_get hO flX11_47 kLX_0 (v := .ref (ad 10)) rfl dX11_kept_45 ?_
        refine b_get hO flX11_294 kLX_10 (v := .ref (ad 14)) rfl dX11_kept_48 ?_
        refine b_iload_n hO dX11_kept_51 1 rfl rfl ?_
        refine b_iald hO kLX_14 (n := 6) rfl dX11_kept_52 ?_
        exact b_iret hO dX11_kept_53
      refine b_lookIn hO dX11_kept_18 (v := 1) (z := 1) (tgt := 54) (by decide) (by decide) rfl (by decide) ?_ (fun hn1 => ?_)
      · refine b_aload_n hO dX11_kept_54 0 rfl rfl ?_
        refine b_get hO flX11_47 kLX_0 (v := .ref (ad 10)) rfl dX11_kept_55 ?_
        refine b_get hO flX11_297 kLX_10 (v := .ref (ad 15)) rfl dX11_kept_58 ?_
        refine b_iload_n hO dX11_kept_61 1 rfl rfl ?_
        refine b_iald hO kLX_15 (n := 6) rfl dX11_kept_62 ?_
        exact b_iret hO dX11_kept_63
      refine b_lookOut hO dX11_kept_18 (tgt := 64) (by decide) (by rw [lv_osw hn0 (by decide)]; rw [lv_osw hn1 (by decide)]; rfl) (by decide) ?_
      refine b_iconst hO dX11_kept_64 ic_i_m1 ?_
      exact b_iret hO dX11_kept_65
    · refine b_iconst hO dX11_kept_15 ic_i_m1 ?_
      exact b_iret hO dX11_kept_16
theorem ctX11_kept (n0 : Nat) (hI : Inj LX ad) (x1 : Int32) (x2 : Int32) (M : Mem) : CT l LX D cy ad yX11_kept cX11_kept 3 (some .int) 1 (QI LX D cy ad) [.ref (ad 0), .int x1, .int x2] M (fX11_kept n0 x1 x2 M) :=
  CT.mk LXok hI (by decide) (Nat.le_of_ble_eq_true rfl) (fun hO => tfX11_kept n0 hO x1 x2 M)
/-! X11_image -/
def fX11_image (n0 : Nat) (M : Mem) : Option (Int32 × Mem) :=
  (fX6_writeImage n0 29 M).bind fun z9 =>
  bnd (sI z9.2 14 z9.1) fun M12 =>
  some ((gI M12 14), M12)
theorem tfX11_image (n0 : Nat) (hO : OKc p (rmL 3) s m args meth c LX D cy ad cX11_image RX11 1 3 (some .int)) (M : Mem) : BL p l e (rmL 3) s m args below meth c LX D cy ad 1 (QI LX D cy ad) 0 [(0, .ref (ad 0))] [] M (fX11_image n0 M) := by
  unfold fX11_image
  refine b_aload_n hO dX11_image_0 0 rfl rfl ?_
  refine b_aload_n hO dX11_image_1 0 rfl rfl ?_
  refine b_get hO flX11_47 kLX_0 (v := .ref (ad 10)) rfl dX11_image_2 ?_
  refine b_aload_n hO dX11_image_5 0 rfl rfl ?_
  refine b_get hO flX11_82 kLX_0 (v := .ref (ad 29)) rfl dX11_image_6 ?_
  refine b_callVI hO mdX6_writeImage mvX6_writeImage w1198 (ci := 6) rfl rfl (by decide) kLX_10 (As := [.ref _]) (st := [.ref _]) (ctX6_writeImage n0 _ kLX_29 hO.2.2.2.2.2.2.1 _) (Nat.le_of_ble_eq_true rfl) rfl rfl (Nat.le_of_ble_eq_true rfl) dX11_image_9 (fun z9 => ?_)
  refine b_putI hO flX11_88 kLX_0 rfl rfl rfl (id := 14) rfl dX11_image_12 ?_
  refine b_bnd (fun M12 => ?_)
  refine b_aload_n hO dX11_image_15 0 rfl rfl ?_
  refine b_get hO flX11_88 kLX_0 (v := .int (gI _ 14)) rfl dX11_image_16 ?_
  exact b_iret hO dX11_image_19
theorem ctX11_image (n0 : Nat) (hI : Inj LX ad) (M : Mem) : CT l LX D cy ad yX11_image cX11_image 1 (some .int) 3 (QI LX D cy ad) [.ref (ad 0)] M (fX11_image n0 M) :=
  CT.mk LXok hI (by decide) (Nat.le_of_ble_eq_true rfl) (fun hO => tfX11_image n0 hO M)
/-! X11_octet -/
def fX11_octet (n0 : Nat) (x1 : Int32) (M : Mem) : Option (Int32 × Mem) :=
  if x1 < 0 then
    some ((-1 : Int32), M)
  else
    if (gI M 14) ≤ x1 then
      some ((-1 : Int32), M)
    else
      if oob x1 24 then none else
      some ((gA M 29 (Int32.toNatClampNeg x1)), M)
theorem tfX11_octet (n0 : Nat) (hO : OKc p (rmL 1) s m args meth c LX D cy ad cX11_octet RX11 2 1 (some .int)) (x1 : Int32) (M : Mem) : BL p l e (rmL 1) s m args below meth c LX D cy ad 2 (QI LX D cy ad) 0 [(0, .ref (ad 0)), (1, .int x1)] [] M (fX11_octet n0 x1 M) := by
  unfold fX11_octet
  refine b_iload_n hO dX11_octet_0 1 rfl rfl ?_
  refine b_if_lt hO dX11_octet_1 (tgt := 21) (by decide) ?_ ?_
  · refine b_iconst hO dX11_octet_21 ic_i_m1 ?_
    exact b_iret hO dX11_octet_22
  · refine b_iload_n hO dX11_octet_4 1 rfl rfl ?_
    refine b_aload_n hO dX11_octet_5 0 rfl rfl ?_
    refine b_get hO flX11_88 kLX_0 (v := .int (gI _ 14)) rfl dX11_octet_6 ?_
    refine b_icmp_ge hO dX11_octet_9 (tgt := 21) (by decide) ?_ ?_
    · refine b_iconst hO dX11_octet_21 ic_i_m1 ?_
      exact b_iret hO dX11_octet_22
    · refine b_aload_n hO dX11_octet_12 0 rfl rfl ?_
      refine b_get hO flX11_82 kLX_0 (v := .ref (ad 29)) rfl dX11_octet_13 ?_
      refine b_iload_n hO dX11_octet_16 1 rfl rfl ?_
      refine b_iald hO kLX_29 (n := 24) rfl dX11_octet_17 ?_
      refine b_goto hO dX11_octet_18 (tgt := 22) (by decide) ?_
      exact b_iret hO dX11_octet_22
theorem ctX11_octet (n0 : Nat) (hI : Inj LX ad) (x1 : Int32) (M : Mem) : CT l LX D cy ad yX11_octet cX11_octet 2 (some .int) 1 (QI LX D cy ad) [.ref (ad 0), .int x1] M (fX11_octet n0 x1 M) :=
  CT.mk LXok hI (by decide) (Nat.le_of_ble_eq_true rfl) (fun hO => tfX11_octet n0 hO x1 M)
/-! X11_on -/
def fX11_on_44 (n0 : Nat) (x1 : Int32) (M : Mem) : Option (Int32 × Mem) :=
  bnd (sI M 641 (0 : Int32)) fun M49 =>
  if x1 = 0 ∨ x1 = 1 then some (x1, M49) else none
def fX11_on (n0 : Nat) (M : Mem) : Option (Int32 × Mem) :=
  (fX6_isImage n0 M).bind fun z8 =>
  if z8.1 = 0 then
    (fX11_refuse n0 (5 : Int32) z8.2).bind fun z40 =>
    fX11_on_44 n0 z8.1 z40.2
  else
    (fX6_readImage n0 z8.2).bind fun z24 =>
    fX11_on_44 n0 z8.1 (sI z24 2050 (0 : Int32))
theorem tfX11_on_44 (n0 : Nat) (hO : OKc p (rmL 4) s m args meth c LX D cy ad cX11_on RX11 2 4 (some .boolean)) (x1 : Int32) (M : Mem) : BL p l e (rmL 4) s m args below meth c LX D cy ad 2 (QI LX D cy ad) 44 [(0, .ref (ad 0)), (1, .int x1)] [] M (fX11_on_44 n0 x1 M) := by
  unfold fX11_on_44
  refine b_aload_n hO dX11_on_44 0 rfl rfl ?_
  refine b_get hO flX11_12 kLX_0 (v := .ref (ad 5)) rfl dX11_on_45 ?_
  refine b_iconst hO dX11_on_48 ic_i_0 ?_
  refine b_putI hO flX11_116 kLX_5 rfl rfl rfl (id := 641) rfl dX11_on_49 ?_
  refine b_bnd (fun M49 => ?_)
  refine b_iload_n hO dX11_on_52 1 rfl rfl ?_
  exact b_zret hO dX11_on_53
theorem tfX11_on (n0 : Nat) (hO : OKc p (rmL 4) s m args meth c LX D cy ad cX11_on RX11 2 4 (some .boolean)) (M : Mem) : BL p l e (rmL 4) s m args below meth c LX D cy ad 2 (QI LX D cy ad) 0 [(0, .ref (ad 0))] [] M (fX11_on n0 M) := by
  unfold fX11_on
  refine b_aload_n hO dX11_on_0 0 rfl rfl ?_
  refine b_get hO flX11_47 kLX_0 (v := .ref (ad 10)) rfl dX11_on_1 ?_
  refine b_aload_n hO dX11_on_4 0 rfl rfl ?_
  refine b_get hO flX11_12 kLX_0 (v := .ref (ad 5)) rfl dX11_on_5 ?_
  refine b_callVI hO mdX6_isImage mvX6_isImage w1217 (ci := 6) rfl rfl (by decide) kLX_10 (As := [.ref _]) (st := []) (ctX6_isImage n0 hO.2.2.2.2.2.2.1 _) (Nat.le_of_ble_eq_true rfl) rfl rfl (Nat.le_of_ble_eq_true rfl) dX11_on_8 (fun z8 => ?_)
  refine b_istore_n hO dX11_on_11 rfl (by decide) (lv' := [(1, .int _), (0, .ref _)]) rfl ?_
  refine b_iload_n hO dX11_on_12 0 rfl rfl ?_
  refine b_if_eq hO dX11_on_13 (tgt := 38) (by decide) ?_ ?_
  · refine b_aload_n hO dX11_on_38 1 rfl rfl ?_
    refine b_iconst hO dX11_on_39 ic_i_5 ?_
    refine b_callVI hO mdX11_refuse mvX11_refuse w671 (ci := 11) rfl rfl (by decide) kLX_0 (As := [.int _]) (st := []) (ctX11_refuse n0 hO.2.2.2.2.2.2.1 _ _) (Nat.le_of_ble_eq_true rfl) rfl rfl (Nat.le_of_ble_eq_true rfl) dX11_on_40 (fun z40 => ?_)
    refine b_pop hO dX11_on_43 rfl ?_
    refine b_sub [1, 0] rfl ?_
    exact tfX11_on_44 n0 hO _ _
  · refine b_aload_n hO dX11_on_16 1 rfl rfl ?_
    refine b_get hO flX11_47 kLX_0 (v := .ref (ad 10)) rfl dX11_on_17 ?_
    refine b_aload_n hO dX11_on_20 1 rfl rfl ?_
    refine b_get hO flX11_12 kLX_0 (v := .ref (ad 5)) rfl dX11_on_21 ?_
    refine b_callVV hO mdX6_readImage mvX6_readImage w1228 (ci := 6) rfl rfl (by decide) kLX_10 (As := [.ref _]) (st := []) (ctX6_readImage n0 hO.2.2.2.2.2.2.1 _) (Nat.le_of_ble_eq_true rfl) rfl rfl (Nat.le_of_ble_eq_true rfl) dX11_on_24 (fun z24 => ?_)
    refine b_aload_n hO dX11_on_27 1 rfl rfl ?_
    refine b_get hO flX11_54 kLX_0 (v := .ref (ad 16)) rfl dX11_on_28 ?_
    refine b_iconst hO dX11_on_31 ic_i_0 ?_
    refine b_putI hO flX11_164 kLX_16 rfl rfl rfl (id := 2050) rfl dX11_on_32 ?_
    refine b_goto hO dX11_on_35 (tgt := 44) (by decide) ?_
    refine b_sub [1, 0] rfl ?_
    exact tfX11_on_44 n0 hO _ _
theorem ctX11_on (n0 : Nat) (hI : Inj LX ad) (M : Mem) : CT l LX D cy ad yX11_on cX11_on 2 (some .boolean) 4 (QI LX D cy ad) [.ref (ad 0)] M (fX11_on n0 M) :=
  CT.mk LXok hI (by decide) (Nat.le_of_ble_eq_true rfl) (fun hO => tfX11_on n0 hO M)
/-! X11_status -/
def fX11_status (n0 : Nat) (x1 : Int32) (M : Mem) : Option (Int32 × Mem) :=
  if x1 < 0 then
    some ((-1 : Int32), M)
  else
    if (6 : Int32) ≤ x1 then
      some ((-1 : Int32), M)
    else
      if oob x1 6 then none else
      some ((gA M 30 (Int32.toNatClampNeg x1)), M)
theorem tfX11_status (n0 : Nat) (hO : OKc p (rmL 1) s m args meth c LX D cy ad cX11_status RX11 2 1 (some .int)) (x1 : Int32) (M : Mem) : BL p l e (rmL 1) s m args below meth c LX D cy ad 2 (QI LX D cy ad) 0 [(0, .ref (ad 0)), (1, .int x1)] [] M (fX11_status n0 x1 M) := by
  unfold fX11_status
  refine b_iload_n hO dX11_status_0 1 rfl rfl ?_
  refine b_if_lt hO dX11_status_1 (tgt := 19) (by decide) ?_ ?_
  · refine b_iconst hO dX11_status_19 ic_i_m1 ?_
    exact b_iret hO dX11_status_20
  · refine b_iload_n hO dX11_status_4 1 rfl rfl ?_
    refine b_bipush hO dX11_status_5 ic_b_6 ?_
    refine b_icmp_ge hO dX11_status_7 (tgt := 19) (by decide) ?_ ?_
    · refine b_iconst hO dX11_status_19 ic_i_m1 ?_
      exact b_iret hO dX11_status_20
    · refine b_aload_n hO dX11_status_10 0 rfl rfl ?_
      refine b_get hO flX11_85 kLX_0 (v := .ref (ad 30)) rfl dX11_status_11 ?_
      refine b_iload_n hO dX11_status_14 1 rfl rfl ?_
      refine b_iald hO kLX_30 (n := 6) rfl dX11_status_15 ?_
      refine b_goto hO dX11_status_16 (tgt := 20) (by decide) ?_
      exact b_iret hO dX11_status_20
theorem ctX11_status (n0 : Nat) (hI : Inj LX ad) (x1 : Int32) (M : Mem) : CT l LX D cy ad yX11_status cX11_status 2 (some .int) 1 (QI LX D cy ad) [.ref (ad 0), .int x1] M (fX11_status n0 x1 M) :=
  CT.mk LXok hI (by decide) (Nat.le_of_ble_eq_true rfl) (fun hO => tfX11_status n0 hO x1 M)
end
