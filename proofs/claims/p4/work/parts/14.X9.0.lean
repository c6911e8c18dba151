section
variable {p : Program} {l : Launch} {e : Env} {s : State} {m : MethodId} {args : Array Value} {below : List Frame} {meth : Method} {c : Code} {D : va_G} {cy : Nat → ClassId} {ad : Nat → Nat} {dd : Nat}

/-! X9_clear -/
def fX9_clear (n0 : Nat) (q0 : Nat) (M : Mem) : Option (Mem) :=
  bnd (sI M (128 * q0 + 0) (0 : Int32)) fun M2 =>
  bnd (sI M2 (128 * q0 + 1) (0 : Int32)) fun M7 =>
  bnd (sI M7 (128 * q0 + 5) (0 : Int32)) fun M12 =>
  bnd (sI M12 (128 * q0 + 8) (0 : Int32)) fun M17 =>
  bnd (sI M17 (128 * q0 + 12) (0 : Int32)) fun M22 =>
  bnd (sI M22 (128 * q0 + 16) (0 : Int32)) fun M27 =>
  bnd (sI M27 (128 * (q0 + 12) + 1) (0 : Int32)) fun M35 =>
  some (sI M35 (128 * (q0 + 14) + 1) (0 : Int32))
theorem tfX9_clear (n0 : Nat) (q0 : Nat) (hq0 : isK LX q0 9) (hO : OKc p (rmL 1) s m args meth c LX D cy ad cX9_clear RX9 1 1 none) (M : Mem) : BL p l e (rmL 1) s m args below meth c LX D cy ad 1 (QV LX D cy ad) 0 [(0, .ref (ad q0))] [] M (fX9_clear n0 q0 M) := by
  unfold fX9_clear
  refine b_aload_n hO dX9_clear_0 0 rfl rfl ?_
  refine b_iconst hO dX9_clear_1 ic_i_0 ?_
  refine b_putI hO flX9_9 hq0 rfl rfl rfl (id := (128 * q0 + 0)) rfl dX9_clear_2 ?_
  refine b_bnd (fun M2 => ?_)
  refine b_aload_n hO dX9_clear_5 0 rfl rfl ?_
  refine b_iconst hO dX9_clear_6 ic_i_0 ?_
  refine b_putI hO flX9_15 hq0 rfl rfl rfl (id := (128 * q0 + 1)) rfl dX9_clear_7 ?_
  refine b_bnd (fun M7 => ?_)
  refine b_aload_n hO dX9_clear_10 0 rfl rfl ?_
  refine b_iconst hO dX9_clear_11 ic_i_0 ?_
  refine b_putI hO flX9_28 hq0 rfl rfl rfl (id := (128 * q0 + 5)) rfl dX9_clear_12 ?_
  refine b_bnd (fun M12 => ?_)
  refine b_aload_n hO dX9_clear_15 0 rfl rfl ?_
  refine b_iconst hO dX9_clear_16 ic_i_0 ?_
  refine b_putI hO flX9_37 hq0 rfl rfl rfl (id := (128 * q0 + 8)) rfl dX9_clear_17 ?_
  refine b_bnd (fun M17 => ?_)
  refine b_aload_n hO dX9_clear_20 0 rfl rfl ?_
  refine b_iconst hO dX9_clear_21 ic_i_0 ?_
  refine b_putI hO flX9_49 hq0 rfl rfl rfl (id := (128 * q0 + 12)) rfl dX9_clear_22 ?_
  refine b_bnd (fun M22 => ?_)
  refine b_aload_n hO dX9_clear_25 0 rfl rfl ?_
  refine b_iconst hO dX9_clear_26 ic_i_0 ?_
  refine b_putI hO flX9_61 hq0 rfl rfl rfl (id := (128 * q0 + 16)) rfl dX9_clear_27 ?_
  refine b_bnd (fun M27 => ?_)
  refine b_aload_n hO dX9_clear_30 0 rfl rfl ?_
  refine b_get hO flX9_67 hq0 (v := .ref (ad (q0 + 12))) rfl dX9_clear_31 ?_
  refine b_iconst hO dX9_clear_34 ic_i_0 ?_
  refine b_putI hO flX9_74 (kt_9_12 hq0) rfl rfl rfl (id := (128 * (q0 + 12) + 1)) rfl dX9_clear_35 ?_
  refine b_bnd (fun M35 => ?_)
  refine b_aload_n hO dX9_clear_38 0 rfl rfl ?_
  refine b_get hO flX9_71 hq0 (v := .ref (ad (q0 + 14))) rfl dX9_clear_39 ?_
  refine b_iconst hO dX9_clear_42 ic_i_0 ?_
  refine b_putI hO flX9_74 (kt_9_14 hq0) rfl rfl rfl (id := (128 * (q0 + 14) + 1)) rfl dX9_clear_43 ?_
  exact b_vret hO dX9_clear_46
theorem ctX9_clear (n0 : Nat) (q0 : Nat) (hq0 : isK LX q0 9) (hI : Inj LX ad) (M : Mem) : CT l LX D cy ad yX9_clear cX9_clear 1 none 1 (QV LX D cy ad) [.ref (ad q0)] M (fX9_clear n0 q0 M) :=
  CT.mk LXok hI (by decide) (Nat.le_of_ble_eq_true rfl) (fun hO => tfX9_clear n0 q0 hq0 hO M)
/-! X9_isThing -/
def fX9_isThing (n0 : Nat) (q0 : Nat) (x1 : Int32) (M : Mem) : Option (Int32 × Mem) :=
  if x1 < 0 then
    some ((0 : Int32), M)
  else
    if (gI M (128 * q0 + 1)) ≤ x1 then
      some ((0 : Int32), M)
    else
      some ((1 : Int32), M)
theorem tfX9_isThing (n0 : Nat) (q0 : Nat) (hq0 : isK LX q0 9) (hO : OKc p (rmL 1) s m args meth c LX D cy ad cX9_isThing RX9 2 1 (some .boolean)) (x1 : Int32) (M : Mem) : BL p l e (rmL 1) s m args below meth c LX D cy ad 2 (QI LX D cy ad) 0 [(0, .ref (ad q0)), (1, .int x1)] [] M (fX9_isThing n0 q0 x1 M) := by
  unfold fX9_isThing
  refine b_iload_n hO dX9_isThing_0 1 rfl rfl ?_
  refine b_if_lt hO dX9_isThing_1 (tgt := 16) (by decide) ?_ ?_
  · refine b_iconst hO dX9_isThing_16 ic_i_0 ?_
    exact b_zretc hO (Or.inl rfl) dX9_isThing_17
  · refine b_iload_n hO dX9_isThing_4 1 rfl rfl ?_
    refine b_aload_n hO dX9_isThing_5 0 rfl rfl ?_
    refine b_get hO flX9_15 hq0 (v := .int (gI _ (128 * q0 + 1))) rfl dX9_isThing_6 ?_
    refine b_icmp_ge hO dX9_isThing_9 (tgt := 16) (by decide) ?_ ?_
    · refine b_iconst hO dX9_isThing_16 ic_i_0 ?_
      exact b_zretc hO (Or.inl rfl) dX9_isThing_17
    · refine b_iconst hO dX9_isThing_12 ic_i_1 ?_
      refine b_goto hO dX9_isThing_13 (tgt := 17) (by decide) ?_
      exact b_zretc hO (Or.inr rfl) dX9_isThing_17
theorem ctX9_isThing (n0 : Nat) (q0 : Nat) (hq0 : isK LX q0 9) (hI : Inj LX ad) (x1 : Int32) (M : Mem) : CT l LX D cy ad yX9_isThing cX9_isThing 2 (some .boolean) 1 (QI LX D cy ad) [.ref (ad q0), .int x1] M (fX9_isThing n0 q0 x1 M) :=
  CT.mk LXok hI (by decide) (Nat.le_of_ble_eq_true rfl) (fun hO => tfX9_isThing n0 q0 hq0 hO x1 M)
/-! X9_isCorner -/
def fX9_isCorner (n0 : Nat) (q0 : Nat) (x1 : Int32) (M : Mem) : Option (Int32 × Mem) :=
  if x1 < 0 then
    some ((0 : Int32), M)
  else
    if (gI M (128 * q0 + 5)) ≤ x1 then
      some ((0 : Int32), M)
    else
      some ((1 : Int32), M)
theorem tfX9_isCorner (n0 : Nat) (q0 : Nat) (hq0 : isK LX q0 9) (hO : OKc p (rmL 1) s m args meth c LX D cy ad cX9_isCorner RX9 2 1 (some .boolean)) (x1 : Int32) (M : Mem) : BL p l e (rmL 1) s m args below meth c LX D cy ad 2 (QI LX D cy ad) 0 [(0, .ref (ad q0)), (1, .int x1)] [] M (fX9_isCorner n0 q0 x1 M) := by
  unfold fX9_isCorner
  refine b_iload_n hO dX9_isCorner_0 1 rfl rfl ?_
  refine b_if_lt hO dX9_isCorner_1 (tgt := 16) (by decide) ?_ ?_
  · refine b_iconst hO dX9_isCorner_16 ic_i_0 ?_
    exact b_zretc hO (Or.inl rfl) dX9_isCorner_17
  · refine b_iload_n hO dX9_isCorner_4 1 rfl rfl ?_
    refine b_aload_n hO dX9_isCorner_5 0 rfl rfl ?_
    refine b_get hO flX9_28 hq0 (v := .int (gI _ (128 * q0 + 5))) rfl dX9_isCorner_6 ?_
    refine b_icmp_ge hO dX9_isCorner_9 (tgt := 16) (by decide) ?_ ?_
    · refine b_iconst hO dX9_isCorner_16 ic_i_0 ?_
      exact b_zretc hO (Or.inl rfl) dX9_isCorner_17
    · refine b_iconst hO dX9_isCorner_12 ic_i_1 ?_
      refine b_goto hO dX9_isCorner_13 (tgt := 17) (by decide) ?_
      exact b_zretc hO (Or.inr rfl) dX9_isCorner_17
theorem ctX9_isCorner (n0 : Nat) (q0 : Nat) (hq0 : isK LX q0 9) (hI : Inj LX ad) (x1 : Int32) (M : Mem) : CT l LX D cy ad yX9_isCorner cX9_isCorner 2 (some .boolean) 1 (QI LX D cy ad) [.ref (ad q0), .int x1] M (fX9_isCorner n0 q0 x1 M) :=
  CT.mk LXok hI (by decide) (Nat.le_of_ble_eq_true rfl) (fun hO => tfX9_isCorner n0 q0 hq0 hO x1 M)
/-! X9_isDoing -/
def fX9_isDoing (n0 : Nat) (q0 : Nat) (x1 : Int32) (M : Mem) : Option (Int32 × Mem) :=
  if x1 < 0 then
    some ((0 : Int32), M)
  else
    if (gI M (128 * q0 + 12)) ≤ x1 then
      some ((0 : Int32), M)
    else
      some ((1 : Int32), M)
theorem tfX9_isDoing (n0 : Nat) (q0 : Nat) (hq0 : isK LX q0 9) (hO : OKc p (rmL 1) s m args meth c LX D cy ad cX9_isDoing RX9 2 1 (some .boolean)) (x1 : Int32) (M : Mem) : BL p l e (rmL 1) s m args below meth c LX D cy ad 2 (QI LX D cy ad) 0 [(0, .ref (ad q0)), (1, .int x1)] [] M (fX9_isDoing n0 q0 x1 M) := by
  unfold fX9_isDoing
  refine b_iload_n hO dX9_isDoing_0 1 rfl rfl ?_
  refine b_if_lt hO dX9_isDoing_1 (tgt := 16) (by decide) ?_ ?_
  · refine b_iconst hO dX9_isDoing_16 ic_i_0 ?_
    exact b_zretc hO (Or.inl rfl) dX9_isDoing_17
  · refine b_iload_n hO dX9_isDoing_4 1 rfl rfl ?_
    refine b_aload_n hO dX9_isDoing_5 0 rfl rfl ?_
    refine b_get hO flX9_49 hq0 (v := .int (gI _ (128 * q0 + 12))) rfl dX9_isDoing_6 ?_
    refine b_icmp_ge hO dX9_isDoing_9 (tgt := 16) (by decide) ?_ ?_
    · refine b_iconst hO dX9_isDoing_16 ic_i_0 ?_
      exact b_zretc hO (Or.inl rfl) dX9_isDoing_17
    · refine b_iconst hO dX9_isDoing_12 ic_i_1 ?_
      refine b_goto hO dX9_isDoing_13 (tgt := 17) (by decide) ?_
      exact b_zretc hO (Or.inr rfl) dX9_isDoing_17
theorem ctX9_isDoing (n0 : Nat) (q0 : Nat) (hq0 : isK LX q0 9) (hI : Inj LX ad) (x1 : Int32) (M : Mem) : CT l LX D cy ad yX9_isDoing cX9_isDoing 2 (some .boolean) 1 (QI LX D cy ad) [.ref (ad q0), .int x1] M (fX9_isDoing n0 q0 x1 M) :=
  CT.mk LXok hI (by decide) (Nat.le_of_ble_eq_true rfl) (fun hO => tfX9_isDoing n0 q0 hq0 hO x1 M)
/-! X9_find -/
def bX9_find_2 (n0 : Nat) (q0 : Nat) (k2 : Int32 → Int32 → Int32 → Mem → Option (Int32 × Mem)) (x1 : Int32) (x2 : Int32) (x3 : Int32) (M : Mem) : Option (Int32 × Mem) :=
  if x1 ≤ x3 then
    some ((-1 : Int32), M)
  else
    if (Int32.ofNat (LX.ln q0)) ≤ x3 then
      some ((-1 : Int32), M)
    else
      if oob x3 (LX.ln q0) then none else
      if (gA M q0 (Int32.toNatClampNeg x3)) = x2 then
        some (x3, M)
      else
        k2 x1 x2 (x3 + (1 : Int32)) M
def fX9_find_2 (n0 : Nat) (q0 : Nat) : Int32 → Int32 → Int32 → Mem → Option (Int32 × Mem) := loopN (bX9_find_2 n0 q0) (fun _ _ _ _ => none) n0
def fX9_find (n0 : Nat) (q0 : Nat) (x1 : Int32) (x2 : Int32) (M : Mem) : Option (Int32 × Mem) :=
  fX9_find_2 n0 q0 x1 x2 (0 : Int32) M
theorem tbX9_find_2 (n0 : Nat) (q0 : Nat) (hq0 : isK LX q0 13) (hO : OKc p (rmL 1) s m args meth c LX D cy ad cX9_find RX9 4 1 (some .int)) (k2 : Int32 → Int32 → Int32 → Mem → Option (Int32 × Mem)) (hk2 : ∀ (x1 : Int32) (x2 : Int32) (x3 : Int32) (M : Mem), BL p l e (rmL 1) s m args below meth c LX D cy ad 4 (QI LX D cy ad) 2 [(0, .ref (ad q0)), (1, .int x1), (2, .int x2), (3, .int x3)] [] M (k2 x1 x2 x3 M)) (x1 : Int32) (x2 : Int32) (x3 : Int32) (M : Mem) : BL p l e (rmL 1) s m args below meth c LX D cy ad 4 (QI LX D cy ad) 2 [(0, .ref (ad q0)), (1, .int x1), (2, .int x2), (3, .int x3)] [] M (bX9_find_2 n0 q0 k2 x1 x2 x3 M) := by
  unfold bX9_find_2
  refine b_iload_n hO dX9_find_2 3 rfl rfl ?_
  refine b_iload_n hO dX9_find_3 1 rfl rfl ?_
  refine b_icmp_ge hO dX9_find_4 (tgt := 28) (by decide) ?_ ?_
  · refine b_iconst hO dX9_find_28 ic_i_m1 ?_
    exact b_iret hO dX9_find_29
  · refine b_iload_n hO dX9_find_7 3 rfl rfl ?_
    refine b_aload_n hO dX9_find_8 0 rfl rfl ?_
    refine b_alen hO hq0 rfl dX9_find_9 ?_
    refine b_icmp_ge hO dX9_find_10 (tgt := 28) (by decide) ?_ ?_
    · refine b_iconst hO dX9_find_28 ic_i_m1 ?_
      exact b_iret hO dX9_find_29
    · refine b_aload_n hO dX9_find_13 0 rfl rfl ?_
      refine b_iload_n hO dX9_find_14 3 rfl rfl ?_
      refine b_iald hO hq0 (n := (LX.ln q0)) rfl dX9_find_15 ?_
      refine b_iload_n hO dX9_find_16 2 rfl rfl ?_
      refine b_icmp_ne hO dX9_find_17 (tgt := 22) (by decide) ?_ ?_
      · refine b_iinc hO dX9_find_22 3 rfl ic_i_1 (by decide) (lv' := [(3, .int _), (0, .ref _), (1, .int _), (2, .int _)]) rfl ?_
        refine b_goto hO dX9_find_25 (tgt := 2) (by decide) ?_
        refine b_sub [1, 2, 3, 0] rfl ?_
        exact hk2 _ _ _ _
      · refine b_iload_n hO dX9_find_20 3 rfl rfl ?_
        exact b_iret hO dX9_find_21
theorem lX9_find_2 (n0 : Nat) (q0 : Nat) (hq0 : isK LX q0 13) (hO : OKc p (rmL 1) s m args meth c LX D cy ad cX9_find RX9 4 1 (some .int)) : ∀ (w : Nat) (x1 : Int32) (x2 : Int32) (x3 : Int32) (M : Mem), BL p l e (rmL 1) s m args below meth c LX D cy ad 4 (QI LX D cy ad) 2 [(0, .ref (ad q0)), (1, .int x1), (2, .int x2), (3, .int x3)] [] M (loopN (bX9_find_2 n0 q0) (fun _ _ _ _ => none) w x1 x2 x3 M) := by
  intro w
  induction w with
  | zero =>
    intros
    exact b_none
  | succ w ih =>
    intro x1 x2 x3 M
    exact tbX9_find_2 n0 q0 hq0 hO _ ih x1 x2 x3 M
theorem tfX9_find_2 (n0 : Nat) (q0 : Nat) (hq0 : isK LX q0 13) (hO : OKc p (rmL 1) s m args meth c LX D cy ad cX9_find RX9 4 1 (some .int)) (x1 : Int32) (x2 : Int32) (x3 : Int32) (M : Mem) : BL p l e (rmL 1) s m args below meth c LX D cy ad 4 (QI LX D cy ad) 2 [(0, .ref (ad q0)), (1, .int x1), (2, .int x2), (3, .int x3)] [] M (fX9_find_2 n0 q0 x1 x2 x3 M) := lX9_find_2 n0 q0 hq0 hO n0 x1 x2 x3 M
theorem tfX9_find (n0 : Nat) (q0 : Nat) (hq0 : isK LX q0 13) (hO : OKc p (rmL 1) s m args meth c LX D cy ad cX9_find RX9 4 1 (some .int)) (x1 : Int32) (x2 : Int32) (M : Mem) : BL p l e (rmL 1) s m args below meth c LX D cy ad 4 (QI LX D cy ad) 0 [(0, .ref (ad q0)), (1, .int x1), (2, .int x2)] [] M (fX9_find n0 q0 x1 x2 M) := by
  unfold fX9_find
  refine b_iconst hO dX9_find_0 ic_i_0 ?_
  refine b_istore_n hO dX9_find_1 rfl (by decide) (lv' := [(3, .int _), (0, .ref _), (1, .int _), (2, .int _)]) rfl ?_
  refine b_sub [1, 2, 3, 0] rfl ?_
  exact tfX9_find_2 n0 q0 hq0 hO _ _ _ _
theorem ctX9_find (n0 : Nat) (q0 : Nat) (hq0 : isK LX q0 13) (hI : Inj LX ad) (x1 : Int32) (x2 : Int32) (M : Mem) : CT l LX D cy ad yX9_find cX9_find 4 (some .int) 1 (QI LX D cy ad) [.ref (ad q0), .int x1, .int x2] M (fX9_find n0 q0 x1 x2 M) :=
  CT.mk LXok hI (by decide) (Nat.le_of_ble_eq_true rfl) (fun hO => tfX9_find n0 q0 hq0 hO x1 x2 M)
/-! X9_findThing -/
def fX9_findThing (n0 : Nat) (q0 : Nat) (x1 : Int32) (M : Mem) : Option (Int32 × Mem) :=
  (fX9_find n0 (q0 + 1) (gI M (128 * q0 + 1)) x1 M).bind fun z9 =>
  some (z9.1, z9.2)
theorem tfX9_findThing (n0 : Nat) (q0 : Nat) (hq0 : isK LX q0 9) (hO : OKc p (rmL 2) s m args meth c LX D cy ad cX9_findThing RX9 2 2 (some .int)) (x1 : Int32) (M : Mem) : BL p l e (rmL 2) s m args below meth c LX D cy ad 2 (QI LX D cy ad) 0 [(0, .ref (ad q0)), (1, .int x1)] [] M (fX9_findThing n0 q0 x1 M) := by
  unfold fX9_findThing
  refine b_aload_n hO dX9_findThing_0 0 rfl rfl ?_
  refine b_get hO flX9_18 hq0 (v := .ref (ad (q0 + 1))) rfl dX9_findThing_1 ?_
  refine b_aload_n hO dX9_findThing_4 0 rfl rfl ?_
  refine b_get hO flX9_15 hq0 (v := .int (gI _ (128 * q0 + 1))) rfl dX9_findThing_5 ?_
  refine b_iload_n hO dX9_findThing_8 1 rfl rfl ?_
  refine b_callSI hO mdX9_find w764 w763 (As := [.ref _, .int _, .int _]) (st := []) (ctX9_find n0 _ (kt_9_1 hq0) hO.2.2.2.2.2.2.1 _ _ _) (Nat.le_of_ble_eq_true rfl) rfl rfl (Nat.le_of_ble_eq_true rfl) dX9_findThing_9 (fun z9 => ?_)
  exact b_iret hO dX9_findThing_12
theorem ctX9_findThing (n0 : Nat) (q0 : Nat) (hq0 : isK LX q0 9) (hI : Inj LX ad) (x1 : Int32) (M : Mem) : CT l LX D cy ad yX9_findThing cX9_findThing 2 (some .int) 2 (QI LX D cy ad) [.ref (ad q0), .int x1] M (fX9_findThing n0 q0 x1 M) :=
  CT.mk LXok hI (by decide) (Nat.le_of_ble_eq_true rfl) (fun hO => tfX9_findThing n0 q0 hq0 hO x1 M)
/-! X9_findCorner -/
def fX9_findCorner (n0 : Nat) (q0 : Nat) (x1 : Int32) (M : Mem) : Option (Int32 × Mem) :=
  (fX9_find n0 (q0 + 4) (gI M (128 * q0 + 5)) x1 M).bind fun z9 =>
  some (z9.1, z9.2)
theorem tfX9_findCorner (n0 : Nat) (q0 : Nat) (hq0 : isK LX q0 9) (hO : OKc p (rmL 2) s m args meth c LX D cy ad cX9_findCorner RX9 2 2 (some .int)) (x1 : Int32) (M : Mem) : BL p l e (rmL 2) s m args below meth c LX D cy ad 2 (QI LX D cy ad) 0 [(0, .ref (ad q0)), (1, .int x1)] [] M (fX9_findCorner n0 q0 x1 M) := by
  unfold fX9_findCorner
  refine b_aload_n hO dX9_findCorner_0 0 rfl rfl ?_
  refine b_get hO flX9_31 hq0 (v := .ref (ad (q0 + 4))) rfl dX9_findCorner_1 ?_
  refine b_aload_n hO dX9_findCorner_4 0 rfl rfl ?_
  refine b_get hO flX9_28 hq0 (v := .int (gI _ (128 * q0 + 5))) rfl dX9_findCorner_5 ?_
  refine b_iload_n hO dX9_findCorner_8 1 rfl rfl ?_
  refine b_callSI hO mdX9_find w764 w763 (As := [.ref _, .int _, .int _]) (st := []) (ctX9_find n0 _ (kt_9_4 hq0) hO.2.2.2.2.2.2.1 _ _ _) (Nat.le_of_ble_eq_true rfl) rfl rfl (Nat.le_of_ble_eq_true rfl) dX9_findCorner_9 (fun z9 => ?_)
  exact b_iret hO dX9_findCorner_12
theorem ctX9_findCorner (n0 : Nat) (q0 : Nat) (hq0 : isK LX q0 9) (hI : Inj LX ad) (x1 : Int32) (M : Mem) : CT l LX D cy ad yX9_findCorner cX9_findCorner 2 (some .int) 2 (QI LX D cy ad) [.ref (ad q0), .int x1] M (fX9_findCorner n0 q0 x1 M) :=
  CT.mk LXok hI (by decide) (Nat.le_of_ble_eq_true rfl) (fun hO => tfX9_findCorner n0 q0 hq0 hO x1 M)
/-! X9_findDoing -/
def fX9_findDoing (n0 : Nat) (q0 : Nat) (x1 : Int32) (M : Mem) : Option (Int32 × Mem) :=
  (fX9_find n0 (q0 + 9) (gI M (128 * q0 + 12)) x1 M).bind fun z9 =>
  some (z9.1, z9.2)
theorem tfX9_findDoing (n0 : Nat) (q0 : Nat) (hq0 : isK LX q0 9) (hO : OKc p (rmL 2) s m args meth c LX D cy ad cX9_findDoing RX9 2 2 (some .int)) (x1 : Int32) (M : Mem) : BL p l e (rmL 2) s m args below meth c LX D cy ad 2 (QI LX D cy ad) 0 [(0, .ref (ad q0)), (1, .int x1)] [] M (fX9_findDoing n0 q0 x1 M) := by
  unfold fX9_findDoing
  refine b_aload_n hO dX9_findDoing_0 0 rfl rfl ?_
  refine b_get hO flX9_52 hq0 (v := .ref (ad (q0 + 9))) rfl dX9_findDoing_1 ?_
  refine b_aload_n hO dX9_findDoing_4 0 rfl rfl ?_
  refine b_get hO flX9_49 hq0 (v := .int (gI _ (128 * q0 + 12))) rfl dX9_findDoing_5 ?_
  refine b_iload_n hO dX9_findDoing_8 1 rfl rfl ?_
  refine b_callSI hO mdX9_find w764 w763 (As := [.ref _, .int _, .int _]) (st := []) (ctX9_find n0 _ (kt_9_9 hq0) hO.2.2.2.2.2.2.1 _ _ _) (Nat.le_of_ble_eq_true rfl) rfl rfl (Nat.le_of_ble_eq_true rfl) dX9_findDoing_9 (fun z9 => ?_)
  exact b_iret hO dX9_findDoing_12
theorem ctX9_findDoing (n0 : Nat) (q0 : Nat) (hq0 : isK LX q0 9) (hI : Inj LX ad) (x1 : Int32) (M : Mem) : CT l LX D cy ad yX9_findDoing cX9_findDoing 2 (some .int) 2 (QI LX D cy ad) [.ref (ad q0), .int x1] M (fX9_findDoing n0 q0 x1 M) :=
  CT.mk LXok hI (by decide) (Nat.le_of_ble_eq_true rfl) (fun hO => tfX9_findDoing n0 q0 hq0 hO x1 M)
/-! X9_hasRoad -/
def fX9_hasRoad_62 (n0 : Nat) (q0 : Nat) (k2 : Int32 → Int32 → Int32 → Mem → Option (Int32 × Mem)) (x1 : Int32) (x2 : Int32) (x3 : Int32) (x4 : Int32) (u0 : Int32) (M : Mem) : Option (Int32 × Mem) :=
  if x4 = 0 then
    if u0 = 0 then
      k2 x1 x2 (x3 + (1 : Int32)) M
    else
      some ((1 : Int32), M)
  else
    some ((1 : Int32), M)
def fX9_hasRoad_61 (n0 : Nat) (q0 : Nat) (k2 : Int32 → Int32 → Int32 → Mem → Option (Int32 × Mem)) (x1 : Int32) (x2 : Int32) (x3 : Int32) (x4 : Int32) (M : Mem) : Option (Int32 × Mem) :=
  fX9_hasRoad_62 n0 q0 k2 x1 x2 x3 x4 (0 : Int32) M
def fX9_hasRoad_35 (n0 : Nat) (q0 : Nat) (k2 : Int32 → Int32 → Int32 → Mem → Option (Int32 × Mem)) (x1 : Int32) (x2 : Int32) (x3 : Int32) (u0 : Int32) (M : Mem) : Option (Int32 × Mem) :=
  if oob x3 10 then none else
  if (gA M (q0 + 6) (Int32.toNatClampNeg x3)) = x2 then
    if oob x3 10 then none else
    if (gA M (q0 + 7) (Int32.toNatClampNeg x3)) = x1 then
      fX9_hasRoad_62 n0 q0 k2 x1 x2 x3 u0 (1 : Int32) M
    else
      fX9_hasRoad_61 n0 q0 k2 x1 x2 x3 u0 M
  else
    fX9_hasRoad_61 n0 q0 k2 x1 x2 x3 u0 M
def fX9_hasRoad_34 (n0 : Nat) (q0 : Nat) (k2 : Int32 → Int32 → Int32 → Mem → Option (Int32 × Mem)) (x1 : Int32) (x2 : Int32) (x3 : Int32) (M : Mem) : Option (Int32 × Mem) :=
  fX9_hasRoad_35 n0 q0 k2 x1 x2 x3 (0 : Int32) M
def bX9_hasRoad_2 (n0 : Nat) (q0 : Nat) (k2 : Int32 → Int32 → Int32 → Mem → Option (Int32 × Mem)) (x1 : Int32) (x2 : Int32) (x3 : Int32) (M : Mem) : Option (Int32 × Mem) :=
  if (gI M (128 * q0 + 8)) ≤ x3 then
    some ((0 : Int32), M)
  else
    if oob x3 10 then none else
    if (gA M (q0 + 6) (Int32.toNatClampNeg x3)) = x1 then
      if oob x3 10 then none else
      if (gA M (q0 + 7) (Int32.toNatClampNeg x3)) = x2 then
        fX9_hasRoad_35 n0 q0 k2 x1 x2 x3 (1 : Int32) M
      else
        fX9_hasRoad_34 n0 q0 k2 x1 x2 x3 M
    else
      fX9_hasRoad_34 n0 q0 k2 x1 x2 x3 M
def fX9_hasRoad_2 (n0 : Nat) (q0 : Nat) : Int32 → Int32 → Int32 → Mem → Option (Int32 × Mem) := loopN (bX9_hasRoad_2 n0 q0) (fun _ _ _ _ => none) n0
def fX9_hasRoad (n0 : Nat) (q0 : Nat) (x1 : Int32) (x2 : Int32) (M : Mem) : Option (Int32 × Mem) :=
  fX9_hasRoad_2 n0 q0 x1 x2 (0 : Int32) M
theorem tfX9_hasRoad_62 (n0 : Nat) (q0 : Nat) (hq0 : isK LX q0 9) (hO : OKc p (rmL 1) s m args meth c LX D cy ad cX9_hasRoad RX9 6 1 (some .boolean)) (k2 : Int32 → Int32 → Int32 → Mem → Option (Int32 × Mem)) (hk2 : ∀ (x1 : Int32) (x2 : Int32) (x3 : Int32) (M : Mem), BL p l e (rmL 1) s m args below meth c LX D cy ad 6 (QI LX D cy ad) 2 [(0, .ref (ad q0)), (1, .int x1), (2, .int x2), (3, .int x3)] [] M (k2 x1 x2 x3 M)) (x1 : Int32) (x2 : Int32) (x3 : Int32) (x4 : Int32) (u0 : Int32) (M : Mem) : BL p l e (rmL 1) s m args below meth c LX D cy ad 6 (QI LX D cy ad) 62 [(0, .ref (ad q0)), (1, .int x1), (2, .int x2), (3, .int x3), (4, .int x4)] [.int u0] M (fX9_hasRoad_62 n0 q0 k2 x1 x2 x3 x4 u0 M) := by
  unfold fX9_hasRoad_62
  refine b_istore hO dX9_hasRoad_62 (by decide) (lv' := [(5, .int _), (0, .ref _), (1, .int _), (2, .int _), (3, .int _), (4, .int _)]) rfl ?_
  refine b_iload hO dX9_hasRoad_64 5 rfl ?_
  refine b_if_ne hO dX9_hasRoad_66 (tgt := 74) (by decide) ?_ ?_
  · refine b_iconst hO dX9_hasRoad_74 ic_i_1 ?_
    exact b_zretc hO (Or.inr rfl) dX9_hasRoad_75
  · refine b_iload hO dX9_hasRoad_69 0 rfl ?_
    refine b_if_eq hO dX9_hasRoad_71 (tgt := 76) (by decide) ?_ ?_
    · refine b_iinc hO dX9_hasRoad_76 4 rfl ic_i_1 (by decide) (lv' := [(3, .int _), (5, .int _), (0, .ref _), (1, .int _), (2, .int _), (4, .int _)]) rfl ?_
      refine b_goto hO dX9_hasRoad_79 (tgt := 2) (by decide) ?_
      refine b_sub [2, 3, 4, 0] rfl ?_
      exact hk2 _ _ _ _
    · refine b_iconst hO dX9_hasRoad_74 ic_i_1 ?_
      exact b_zretc hO (Or.inr rfl) dX9_hasRoad_75
theorem tfX9_hasRoad_61 (n0 : Nat) (q0 : Nat) (hq0 : isK LX q0 9) (hO : OKc p (rmL 1) s m args meth c LX D cy ad cX9_hasRoad RX9 6 1 (some .boolean)) (k2 : Int32 → Int32 → Int32 → Mem → Option (Int32 × Mem)) (hk2 : ∀ (x1 : Int32) (x2 : Int32) (x3 : Int32) (M : Mem), BL p l e (rmL 1) s m args below meth c LX D cy ad 6 (QI LX D cy ad) 2 [(0, .ref (ad q0)), (1, .int x1), (2, .int x2), (3, .int x3)] [] M (k2 x1 x2 x3 M)) (x1 : Int32) (x2 : Int32) (x3 : Int32) (x4 : Int32) (M : Mem) : BL p l e (rmL 1) s m args below meth c LX D cy ad 6 (QI LX D cy ad) 61 [(0, .ref (ad q0)), (1, .int x1), (2, .int x2), (3, .int x3), (4, .int x4)] [] M (fX9_hasRoad_61 n0 q0 k2 x1 x2 x3 x4 M) := by
  unfold fX9_hasRoad_61
  refine b_iconst hO dX9_hasRoad_61 ic_i_0 ?_
  exact tfX9_hasRoad_62 n0 q0 hq0 hO k2 hk2 _ _ _ _ _ _
theorem tfX9_hasRoad_35 (n0 : Nat) (q0 : Nat) (hq0 : isK LX q0 9) (hO : OKc p (rmL 1) s m args meth c LX D cy ad cX9_hasRoad RX9 6 1 (some .boolean)) (k2 : Int32 → Int32 → Int32 → Mem → Option (Int32 × Mem)) (hk2 : ∀ (x1 : Int32) (x2 : Int32) (x3 : Int32) (M : Mem), BL p l e (rmL 1) s m args below meth c LX D cy ad 6 (QI LX D cy ad) 2 [(0, .ref (ad q0)), (1, .int x1), (2, .int x2), (3, .int x3)] [] M (k2 x1 x2 x3 M)) (x1 : Int32) (x2 : Int32) (x3 : Int32) (u0 : Int32) (M : Mem) : BL p l e (rmL 1) s m args below meth c LX D cy ad 6 (QI LX D cy ad) 35 [(0, .ref (ad q0)), (1, .int x1), (2, .int x2), (3, .int x3)] [.int u0] M (fX9_hasRoad_35 n0 q0 k2 x1 x2 x3 u0 M) := by
  unfold fX9_hasRoad_35
  refine b_istore hO dX9_hasRoad_35 (by decide) (lv' := [(4, .int _), (0, .ref _), (1, .int _), (2, .int _), (3, .int _)]) rfl ?_
  refine b_aload_n hO dX9_hasRoad_37 1 rfl rfl ?_
  refine b_get hO flX9_40 hq0 (v := .ref (ad (q0 + 6))) rfl dX9_hasRoad_38 ?_
  refine b_iload_n hO dX9_hasRoad_41 4 rfl rfl ?_
  refine b_iald hO (kt_9_6 hq0) (n := 10) (lt_9_6 hq0) dX9_hasRoad_42 ?_
  refine b_iload_n hO dX9_hasRoad_43 3 rfl rfl ?_
  refine b_icmp_ne hO dX9_hasRoad_44 (tgt := 61) (by decide) ?_ ?_
  · refine b_sub [1, 2, 3, 4, 0] rfl ?_
    exact tfX9_hasRoad_61 n0 q0 hq0 hO k2 hk2 _ _ _ _ _
  · refine b_aload_n hO dX9_hasRoad_47 1 rfl rfl ?_
    refine b_get hO flX9_43 hq0 (v := .ref (ad (q0 + 7))) rfl dX9_hasRoad_48 ?_
    refine b_iload_n hO dX9_hasRoad_51 4 rfl rfl ?_
    refine b_iald hO (kt_9_7 hq0) (n := 10) (lt_9_7 hq0) dX9_hasRoad_52 ?_
    refine b_iload_n hO dX9_hasRoad_53 2 rfl rfl ?_
    refine b_icmp_ne hO dX9_hasRoad_54 (tgt := 61) (by decide) ?_ ?_
    · refine b_sub [1, 2, 3, 4, 0] rfl ?_
      exact tfX9_hasRoad_61 n0 q0 hq0 hO k2 hk2 _ _ _ _ _
    · refine b_iconst hO dX9_hasRoad_57 ic_i_1 ?_
      refine b_goto hO dX9_hasRoad_58 (tgt := 62) (by decide) ?_
      refine b_sub [1, 2, 3, 4, 0] rfl ?_
      exact tfX9_hasRoad_62 n0 q0 hq0 hO k2 hk2 _ _ _ _ _ _
theorem tfX9_hasRoad_34 (n0 : Nat) (q0 : Nat) (hq0 : isK LX q0 9) (hO : OKc p (rmL 1) s m args meth c LX D cy ad cX9_hasRoad RX9 6 1 (some .boolean)) (k2 : Int32 → Int32 → Int32 → Mem → Option (Int32 × Mem)) (hk2 : ∀ (x1 : Int32) (x2 : Int32) (x3 : Int32) (M : Mem), BL p l e (rmL 1) s m args below meth c LX D cy ad 6 (QI LX D cy ad) 2 [(0, .ref (ad q0)), (1, .int x1), (2, .int x2), (3, .int x3)] [] M (k2 x1 x2 x3 M)) (x1 : Int32) (x2 : Int32) (x3 : Int32) (M : Mem) : BL p l e (rmL 1) s m args below meth c LX D cy ad 6 (QI LX D cy ad) 34 [(0, .ref (ad q0)), (1, .int x1), (2, .int x2), (3, .int x3)] [] M (fX9_hasRoad_34 n0 q0 k2 x1 x2 x3 M) := by
  unfold fX9_hasRoad_34
  refine b_iconst hO dX9_hasRoad_34 ic_i_0 ?_
  exact tfX9_hasRoad_35 n0 q0 hq0 hO k2 hk2 _ _ _ _ _
theorem tbX9_hasRoad_2 (n0 : Nat) (q0 : Nat) (hq0 : isK LX q0 9) (hO : OKc p (rmL 1) s m args meth c LX D cy ad cX9_hasRoad RX9 6 1 (some .boolean)) (k2 : Int32 → Int32 → Int32 → Mem → Option (Int32 × Mem)) (hk2 : ∀ (x1 : Int32) (x2 : Int32) (x3 : Int32) (M : Mem), BL p l e (rmL 1) s m args below meth c LX D cy ad 6 (QI LX D cy ad) 2 [(0, .ref (ad q0)), (1, .int x1), (2, .int x2), (3, .int x3)] [] M (k2 x1 x2 x3 M)) (x1 : Int32) (x2 : Int32) (x3 : Int32) (M : Mem) : BL p l e (rmL 1) s m args below meth c LX D cy ad 6 (QI LX D cy ad) 2 [(0, .ref (ad q0)), (1, .int x1), (2, .int x2), (3, .int x3)] [] M (bX9_hasRoad_2 n0 q0 k2 x1 x2 x3 M) := by
  unfold bX9_hasRoad_2
  refine b_iload_n hO dX9_hasRoad_2 3 rfl rfl ?_
  refine b_aload_n hO dX9_hasRoad_3 0 rfl rfl ?_
  refine b_get hO flX9_37 hq0 (v := .int (gI _ (128 * q0 + 8))) rfl dX9_hasRoad_4 ?_
  refine b_icmp_ge hO dX9_hasRoad_7 (tgt := 82) (by decide) ?_ ?_
  · refine b_iconst hO dX9_hasRoad_82 ic_i_0 ?_
    exact b_zretc hO (Or.inl rfl) dX9_hasRoad_83
  · refine b_aload_n hO dX9_hasRoad_10 0 rfl rfl ?_
    refine b_get hO flX9_40 hq0 (v := .ref (ad (q0 + 6))) rfl dX9_hasRoad_11 ?_
    refine b_iload_n hO dX9_hasRoad_14 3 rfl rfl ?_
    refine b_iald hO (kt_9_6 hq0) (n := 10) (lt_9_6 hq0) dX9_hasRoad_15 ?_
    refine b_iload_n hO dX9_hasRoad_16 1 rfl rfl ?_
    refine b_icmp_ne hO dX9_hasRoad_17 (tgt := 34) (by decide) ?_ ?_
    · exact tfX9_hasRoad_34 n0 q0 hq0 hO k2 hk2 _ _ _ _
    · refine b_aload_n hO dX9_hasRoad_20 0 rfl rfl ?_
      refine b_get hO flX9_43 hq0 (v := .ref (ad (q0 + 7))) rfl dX9_hasRoad_21 ?_
      refine b_iload_n hO dX9_hasRoad_24 3 rfl rfl ?_
      refine b_iald hO (kt_9_7 hq0) (n := 10) (lt_9_7 hq0) dX9_hasRoad_25 ?_
      refine b_iload_n hO dX9_hasRoad_26 2 rfl rfl ?_
      refine b_icmp_ne hO dX9_hasRoad_27 (tgt := 34) (by decide) ?_ ?_
      · exact tfX9_hasRoad_34 n0 q0 hq0 hO k2 hk2 _ _ _ _
      · refine b_iconst hO dX9_hasRoad_30 ic_i_1 ?_
        refine b_goto hO dX9_hasRoad_31 (tgt := 35) (by decide) ?_
        exact tfX9_hasRoad_35 n0 q0 hq0 hO k2 hk2 _ _ _ _ _
theorem lX9_hasRoad_2 (n0 : Nat) (q0 : Nat) (hq0 : isK LX q0 9) (hO : OKc p (rmL 1) s m args meth c LX D cy ad cX9_hasRoad RX9 6 1 (some .boolean)) : ∀ (w : Nat) (x1 : Int32) (x2 : Int32) (x3 : Int32) (M : Mem), BL p l e (rmL 1) s m args below meth c LX D cy ad 6 (QI LX D cy ad) 2 [(0, .ref (ad q0)), (1, .int x1), (2, .int x2), (3, .int x3)] [] M (loopN (bX9_hasRoad_2 n0 q0) (fun _ _ _ _ => none) w x1 x2 x3 M) := by
  intro w
  induction w with
  | zero =>
    intros
    exact b_none
  | succ w ih =>
    intro x1 x2 x3 M
    exact tbX9_hasRoad_2 n0 q0 hq0 hO _ ih x1 x2 x3 M
theorem tfX9_hasRoad_2 (n0 : Nat) (q0 : Nat) (hq0 : isK LX q0 9) (hO : OKc p (rmL 1) s m args meth c LX D cy ad cX9_hasRoad RX9 6 1 (some .boolean)) (x1 : Int32) (x2 : Int32) (x3 : Int32) (M : Mem) : BL p l e (rmL 1) s m args below meth c LX D cy ad 6 (QI LX D cy ad) 2 [(0, .ref (ad q0)), (1, .int x1), (2, .int x2), (3, .int x3)] [] M (fX9_hasRoad_2 n0 q0 x1 x2 x3 M) := lX9_hasRoad_2 n0 q0 hq0 hO n0 x1 x2 x3 M
theorem tfX9_hasRoad (n0 : Nat) (q0 : Nat) (hq0 : isK LX q0 9) (hO : OKc p (rmL 1) s m args meth c LX D cy ad cX9_hasRoad RX9 6 1 (some .boolean)) (x1 : Int32) (x2 : Int32) (M : Mem) : BL p l e (rmL 1) s m args below meth c LX D cy ad 6 (QI LX D cy ad) 0 [(0, .ref (ad q0)), (1, .int x1), (2, .int x2)] [] M (fX9_hasRoad n0 q0 x1 x2 M) := by
  unfold fX9_hasRoad
  refine b_iconst hO dX9_hasRoad_0 ic_i_0 ?_
  refine b_istore_n hO dX9_hasRoad_1 rfl (by decide) (lv' := [(3, .int _), (0, .ref _), (1, .int _), (2, .int _)]) rfl ?_
  refine b_sub [1, 2, 3, 0] rfl ?_
  exact tfX9_hasRoad_2 n0 q0 hq0 hO _ _ _ _
theorem ctX9_hasRoad (n0 : Nat) (q0 : Nat) (hq0 : isK LX q0 9) (hI : Inj LX ad) (x1 : Int32) (x2 : Int32) (M : Mem) : CT l LX D cy ad yX9_hasRoad cX9_hasRoad 6 (some .boolean) 1 (QI LX D cy ad) [.ref (ad q0), .int x1, .int x2] M (fX9_hasRoad n0 q0 x1 x2 M) :=
  CT.mk LXok hI (by decide) (Nat.le_of_ble_eq_true rfl) (fun hO => tfX9_hasRoad n0 q0 hq0 hO x1 x2 M)
/-! X9_addThing -/
def fX9_addThing (n0 : Nat) (q0 : Nat) (x1 : Int32) (x2 : Int32) (x3 : Int32) (M : Mem) : Option (Mem) :=
  if (6 : Int32) ≤ (gI M (128 * q0 + 1)) then
    some M
  else
    if oob (gI M (128 * q0 + 1)) 6 then none else
    bnd (sA M (q0 + 1) (Int32.toNatClampNeg (gI M (128 * q0 + 1))) x1) fun M18 =>
    if oob (gI M18 (128 * q0 + 1)) 6 then none else
    bnd (sA M18 (q0 + 2) (Int32.toNatClampNeg (gI M18 (128 * q0 + 1))) x2) fun M28 =>
    if oob (gI M28 (128 * q0 + 1)) 6 then none else
    bnd (sA M28 (q0 + 3) (Int32.toNatClampNeg (gI M28 (128 * q0 + 1))) x3) fun M38 =>
    some (sI M38 (128 * q0 + 1) ((gI M38 (128 * q0 + 1)) + (1 : Int32)))
theorem tfX9_addThing (n0 : Nat) (q0 : Nat) (hq0 : isK LX q0 9) (hO : OKc p (rmL 1) s m args meth c LX D cy ad cX9_addThing RX9 4 1 none) (x1 : Int32) (x2 : Int32) (x3 : Int32) (M : Mem) : BL p l e (rmL 1) s m args below meth c LX D cy ad 4 (QV LX D cy ad) 0 [(0, .ref (ad q0)), (1, .int x1), (2, .int x2), (3, .int x3)] [] M (fX9_addThing n0 q0 x1 x2 x3 M) := by
  unfold fX9_addThing
  refine b_aload_n hO dX9_addThing_0 0 rfl rfl ?_
  refine b_get hO flX9_15 hq0 (v := .int (gI _ (128 * q0 + 1))) rfl dX9_addThing_1 ?_
  refine b_bipush hO dX9_addThing_4 ic_b_6 ?_
  refine b_icmp_ge hO dX9_addThing_6 (tgt := 49) (by decide) ?_ ?_
  · exact b_vret hO dX9_addThing_49
  · refine b_aload_n hO dX9_addThing_9 0 rfl rfl ?_
    refine b_get hO flX9_18 hq0 (v := .ref (ad (q0 + 1))) rfl dX9_addThing_10 ?_
    refine b_aload_n hO dX9_addThing_13 0 rfl rfl ?_
    refine b_get hO flX9_15 hq0 (v := .int (gI _ (128 * q0 + 1))) rfl dX9_addThing_14 ?_
    refine b_iload_n hO dX9_addThing_17 1 rfl rfl ?_
    refine b_iast hO (kt_9_1 hq0) (n := 6) (lt_9_1 hq0) dX9_addThing_18 ?_
    refine b_bnd (fun M18 => ?_)
    refine b_aload_n hO dX9_addThing_19 0 rfl rfl ?_
    refine b_get hO flX9_22 hq0 (v := .ref (ad (q0 + 2))) rfl dX9_addThing_20 ?_
    refine b_aload_n hO dX9_addThing_23 0 rfl rfl ?_
    refine b_get hO flX9_15 hq0 (v := .int (gI _ (128 * q0 + 1))) rfl dX9_addThing_24 ?_
    refine b_iload_n hO dX9_addThing_27 2 rfl rfl ?_
    refine b_iast hO (kt_9_2 hq0) (n := 6) (lt_9_2 hq0) dX9_addThing_28 ?_
    refine b_bnd (fun M28 => ?_)
    refine b_aload_n hO dX9_addThing_29 0 rfl rfl ?_
    refine b_get hO flX9_25 hq0 (v := .ref (ad (q0 + 3))) rfl dX9_addThing_30 ?_
    refine b_aload_n hO dX9_addThing_33 0 rfl rfl ?_
    refine b_get hO flX9_15 hq0 (v := .int (gI _ (128 * q0 + 1))) rfl dX9_addThing_34 ?_
    refine b_iload_n hO dX9_addThing_37 3 rfl rfl ?_
    refine b_iast hO (kt_9_3 hq0) (n := 6) (lt_9_3 hq0) dX9_addThing_38 ?_
    refine b_bnd (fun M38 => ?_)
    refine b_aload_n hO dX9_addThing_39 0 rfl rfl ?_
    refine b_dup hO dX9_addThing_40 rfl ?_
    refine b_get hO flX9_15 hq0 (v := .int (gI _ (128 * q0 + 1))) rfl dX9_addThing_41 ?_
    refine b_iconst hO dX9_addThing_44 ic_i_1 ?_
    refine b_iadd hO dX9_addThing_45 ?_
    refine b_putI hO flX9_15 hq0 rfl rfl rfl (id := (128 * q0 + 1)) rfl dX9_addThing_46 ?_
    exact b_vret hO dX9_addThing_49
theorem ctX9_addThing (n0 : Nat) (q0 : Nat) (hq0 : isK LX q0 9) (hI : Inj LX ad) (x1 : Int32) (x2 : Int32) (x3 : Int32) (M : Mem) : CT l LX D cy ad yX9_addThing cX9_addThing 4 none 1 (QV LX D cy ad) [.ref (ad q0), .int x1, .int x2, .int x3] M (fX9_addThing n0 q0 x1 x2 x3 M) :=
  CT.mk LXok hI (by decide) (Nat.le_of_ble_eq_true rfl) (fun hO => tfX9_addThing n0 q0 hq0 hO x1 x2 x3 M)
/-! X9_addCorner -/
def fX9_addCorner (n0 : Nat) (q0 : Nat) (x1 : Int32) (M : Mem) : Option (Mem) :=
  if (5 : Int32) ≤ (gI M (128 * q0 + 5)) then
    some M
  else
    if oob (gI M (128 * q0 + 5)) 5 then none else
    bnd (sA M (q0 + 4) (Int32.toNatClampNeg (gI M (128 * q0 + 5))) x1) fun M17 =>
    if oob (gI M17 (128 * q0 + 5)) 5 then none else
    bnd (sA M17 (q0 + 5) (Int32.toNatClampNeg (gI M17 (128 * q0 + 5))) (-1 : Int32)) fun M27 =>
    some (sI M27 (128 * q0 + 5) ((gI M27 (128 * q0 + 5)) + (1 : Int32)))
theorem tfX9_addCorner (n0 : Nat) (q0 : Nat) (hq0 : isK LX q0 9) (hO : OKc p (rmL 1) s m args meth c LX D cy ad cX9_addCorner RX9 2 1 none) (x1 : Int32) (M : Mem) : BL p l e (rmL 1) s m args below meth c LX D cy ad 2 (QV LX D cy ad) 0 [(0, .ref (ad q0)), (1, .int x1)] [] M (fX9_addCorner n0 q0 x1 M) := by
  unfold fX9_addCorner
  refine b_aload_n hO dX9_addCorner_0 0 rfl rfl ?_
  refine b_get hO flX9_28 hq0 (v := .int (gI _ (128 * q0 + 5))) rfl dX9_addCorner_1 ?_
  refine b_iconst hO dX9_addCorner_4 ic_i_5 ?_
  refine b_icmp_ge hO dX9_addCorner_5 (tgt := 38) (by decide) ?_ ?_
  · exact b_vret hO dX9_addCorner_38
  · refine b_aload_n hO dX9_addCorner_8 0 rfl rfl ?_
    refine b_get hO flX9_31 hq0 (v := .ref (ad (q0 + 4))) rfl dX9_addCorner_9 ?_
    refine b_aload_n hO dX9_addCorner_12 0 rfl rfl ?_
    refine b_get hO flX9_28 hq0 (v := .int (gI _ (128 * q0 + 5))) rfl dX9_addCorner_13 ?_
    refine b_iload_n hO dX9_addCorner_16 1 rfl rfl ?_
    refine b_iast hO (kt_9_4 hq0) (n := 5) (lt_9_4 hq0) dX9_addCorner_17 ?_
    refine b_bnd (fun M17 => ?_)
    refine b_aload_n hO dX9_addCorner_18 0 rfl rfl ?_
    refine b_get hO flX9_34 hq0 (v := .ref (ad (q0 + 5))) rfl dX9_addCorner_19 ?_
    refine b_aload_n hO dX9_addCorner_22 0 rfl rfl ?_
    refine b_get hO flX9_28 hq0 (v := .int (gI _ (128 * q0 + 5))) rfl dX9_addCorner_23 ?_
    refine b_iconst hO dX9_addCorner_26 ic_i_m1 ?_
    refine b_iast hO (kt_9_5 hq0) (n := 5) (lt_9_5 hq0) dX9_addCorner_27 ?_
    refine b_bnd (fun M27 => ?_)
    refine b_aload_n hO dX9_addCorner_28 0 rfl rfl ?_
    refine b_dup hO dX9_addCorner_29 rfl ?_
    refine b_get hO flX9_28 hq0 (v := .int (gI _ (128 * q0 + 5))) rfl dX9_addCorner_30 ?_
    refine b_iconst hO dX9_addCorner_33 ic_i_1 ?_
    refine b_iadd hO dX9_addCorner_34 ?_
    refine b_putI hO flX9_28 hq0 rfl rfl rfl (id := (128 * q0 + 5)) rfl dX9_addCorner_35 ?_
    exact b_vret hO dX9_addCorner_38
theorem ctX9_addCorner (n0 : Nat) (q0 : Nat) (hq0 : isK LX q0 9) (hI : Inj LX ad) (x1 : Int32) (M : Mem) : CT l LX D cy ad yX9_addCorner cX9_addCorner 2 none 1 (QV LX D cy ad) [.ref (ad q0), .int x1] M (fX9_addCorner n0 q0 x1 M) :=
  CT.mk LXok hI (by decide) (Nat.le_of_ble_eq_true rfl) (fun hO => tfX9_addCorner n0 q0 hq0 hO x1 M)
/-! X9_addRoad -/
def fX9_addRoad (n0 : Nat) (q0 : Nat) (x1 : Int32) (x2 : Int32) (x3 : Int32) (M : Mem) : Option (Mem) :=
  if (10 : Int32) ≤ (gI M (128 * q0 + 8)) then
    some M
  else
    if oob (gI M (128 * q0 + 8)) 10 then none else
    bnd (sA M (q0 + 6) (Int32.toNatClampNeg (gI M (128 * q0 + 8))) x1) fun M18 =>
    if oob (gI M18 (128 * q0 + 8)) 10 then none else
    bnd (sA M18 (q0 + 7) (Int32.toNatClampNeg (gI M18 (128 * q0 + 8))) x2) fun M28 =>
    if oob (gI M28 (128 * q0 + 8)) 10 then none else
    bnd (sA M28 (q0 + 8) (Int32.toNatClampNeg (gI M28 (128 * q0 + 8))) x3) fun M38 =>
    some (sI M38 (128 * q0 + 8) ((gI M38 (128 * q0 + 8)) + (1 : Int32)))
theorem tfX9_addRoad (n0 : Nat) (q0 : Nat) (hq0 : isK LX q0 9) (hO : OKc p (rmL 1) s m args meth c LX D cy ad cX9_addRoad RX9 4 1 none) (x1 : Int32) (x2 : Int32) (x3 : Int32) (M : Mem) : BL p l e (rmL 1) s m args below meth c LX D cy ad 4 (QV LX D cy ad) 0 [(0, .ref (ad q0)), (1, .int x1), (2, .int x2), (3, .int x3)] [] M (fX9_addRoad n0 q0 x1 x2 x3 M) := by
  unfold fX9_addRoad
  refine b_aload_n hO dX9_addRoad_0 0 rfl rfl ?_
  refine b_get hO flX9_37 hq0 (v := .int (gI _ (128 * q0 + 8))) rfl dX9_addRoad_1 ?_
  refine b_bipush hO dX9_addRoad_4 ic_b_10 ?_
  refine b_icmp_ge hO dX9_addRoad_6 (tgt := 49) (by decide) ?_ ?_
  · exact b_vret hO dX9_addRoad_49
  · refine b_aload_n hO dX9_addRoad_9 0 rfl rfl ?_
    refine b_get hO flX9_40 hq0 (v := .ref (ad (q0 + 6))) rfl dX9_addRoad_10 ?_
    refine b_aload_n hO dX9_addRoad_13 0 rfl rfl ?_
    refine b_get hO flX9_37 hq0 (v := .int (gI _ (128 * q0 + 8))) rfl dX9_addRoad_14 ?_
    refine b_iload_n hO dX9_addRoad_17 1 rfl rfl ?_
    refine b_iast hO (kt_9_6 hq0) (n := 10) (lt_9_6 hq0) dX9_addRoad_18 ?_
    refine b_bnd (fun M18 => ?_)
    refine b_aload_n hO dX9_addRoad_19 0 rfl rfl ?_
    refine b_get hO flX9_43 hq0 (v := .ref (ad (q0 + 7))) rfl dX9_addRoad_20 ?_
    refine b_aload_n hO dX9_addRoad_23 0 rfl rfl ?_
    refine b_get hO flX9_37 hq0 (v := .int (gI _ (128 * q0 + 8))) rfl dX9_addRoad_24 ?_
    refine b_iload_n hO dX9_addRoad_27 2 rfl rfl ?_
    refine b_iast hO (kt_9_7 hq0) (n := 10) (lt_9_7 hq0) dX9_addRoad_28 ?_
    refine b_bnd (fun M28 => ?_)
    refine b_aload_n hO dX9_addRoad_29 0 rfl rfl ?_
    refine b_get hO flX9_46 hq0 (v := .ref (ad (q0 + 8))) rfl dX9_addRoad_30 ?_
    refine b_aload_n hO dX9_addRoad_33 0 rfl rfl ?_
    refine b_get hO flX9_37 hq0 (v := .int (gI _ (128 * q0 + 8))) rfl dX9_addRoad_34 ?_
    refine b_iload_n hO dX9_addRoad_37 3 rfl rfl ?_
    refine b_iast hO (kt_9_8 hq0) (n := 10) (lt_9_8 hq0) dX9_addRoad_38 ?_
    refine b_bnd (fun M38 => ?_)
    refine b_aload_n hO dX9_addRoad_39 0 rfl rfl ?_
    refine b_dup hO dX9_addRoad_40 rfl ?_
    refine b_get hO flX9_37 hq0 (v := .int (gI _ (128 * q0 + 8))) rfl dX9_addRoad_41 ?_
    refine b_iconst hO dX9_addRoad_44 ic_i_1 ?_
    refine b_iadd hO dX9_addRoad_45 ?_
    refine b_putI hO flX9_37 hq0 rfl rfl rfl (id := (128 * q0 + 8)) rfl dX9_addRoad_46 ?_
    exact b_vret hO dX9_addRoad_49
theorem ctX9_addRoad (n0 : Nat) (q0 : Nat) (hq0 : isK LX q0 9) (hI : Inj LX ad) (x1 : Int32) (x2 : Int32) (x3 : Int32) (M : Mem) : CT l LX D cy ad yX9_addRoad cX9_addRoad 4 none 1 (QV LX D cy ad) [.ref (ad q0), .int x1, .int x2, .int x3] M (fX9_addRoad n0 q0 x1 x2 x3 M) :=
  CT.mk LXok hI (by decide) (Nat.le_of_ble_eq_true rfl) (fun hO => tfX9_addRoad n0 q0 hq0 hO x1 x2 x3 M)
/-! X9_addDoing -/
def fX9_addDoing (n0 : Nat) (q0 : Nat) (x1 : Int32) (x2 : Int32) (x3 : Int32) (M : Mem) : Option (Mem) :=
  if (6 : Int32) ≤ (gI M (128 * q0 + 12)) then
    some M
  else
    if oob (gI M (128 * q0 + 12)) 6 then none else
    bnd (sA M (q0 + 9) (Int32.toNatClampNeg (gI M (128 * q0 + 12))) x1) fun M18 =>
    if oob (gI M18 (128 * q0 + 12)) 6 then none else
    bnd (sA M18 (q0 + 10) (Int32.toNatClampNeg (gI M18 (128 * q0 + 12))) x2) fun M28 =>
    if oob (gI M28 (128 * q0 + 12)) 6 then none else
    bnd (sA M28 (q0 + 11) (Int32.toNatClampNeg (gI M28 (128 * q0 + 12))) x3) fun M38 =>
    some (sI M38 (128 * q0 + 12) ((gI M38 (128 * q0 + 12)) + (1 : Int32)))
theorem tfX9_addDoing (n0 : Nat) (q0 : Nat) (hq0 : isK LX q0 9) (hO : OKc p (rmL 1) s m args meth c LX D cy ad cX9_addDoing RX9 4 1 none) (x1 : Int32) (x2 : Int32) (x3 : Int32) (M : Mem) : BL p l e (rmL 1) s m args below meth c LX D cy ad 4 (QV LX D cy ad) 0 [(0, .ref (ad q0)), (1, .int x1), (2, .int x2), (3, .int x3)] [] M (fX9_addDoing n0 q0 x1 x2 x3 M) := by
  unfold fX9_addDoing
  refine b_aload_n hO dX9_addDoing_0 0 rfl rfl ?_
  refine b_get hO flX9_49 hq0 (v := .int (gI _ (128 * q0 + 12))) rfl dX9_addDoing_1 ?_
  refine b_bipush hO dX9_addDoing_4 ic_b_6 ?_
  refine b_icmp_ge hO dX9_addDoing_6 (tgt := 49) (by decide) ?_ ?_
  · exact b_vret hO dX9_addDoing_49
  · refine b_aload_n hO dX9_addDoing_9 0 rfl rfl ?_
    refine b_get hO flX9_52 hq0 (v := .ref (ad (q0 + 9))) rfl dX9_addDoing_10 ?_
    refine b_aload_n hO dX9_addDoing_13 0 rfl rfl ?_
    refine b_get hO flX9_49 hq0 (v := .int (gI _ (128 * q0 + 12))) rfl dX9_addDoing_14 ?_
    refine b_iload_n hO dX9_addDoing_17 1 rfl rfl ?_
    refine b_iast hO (kt_9_9 hq0) (n := 6) (lt_9_9 hq0) dX9_addDoing_18 ?_
    refine b_bnd (fun M18 => ?_)
    refine b_aload_n hO dX9_addDoing_19 0 rfl rfl ?_
    refine b_get hO flX9_55 hq0 (v := .ref (ad (q0 + 10))) rfl dX9_addDoing_20 ?_
    refine b_aload_n hO dX9_addDoing_23 0 rfl rfl ?_
    refine b_get hO flX9_49 hq0 (v := .int (gI _ (128 * q0 + 12))) rfl dX9_addDoing_24 ?_
    refine b_iload_n hO dX9_addDoing_27 2 rfl rfl ?_
    refine b_iast hO (kt_9_10 hq0) (n := 6) (lt_9_10 hq0) dX9_addDoing_28 ?_
    refine b_bnd (fun M28 => ?_)
    refine b_aload_n hO dX9_addDoing_29 0 rfl rfl ?_
    refine b_get hO flX9_58 hq0 (v := .ref (ad (q0 + 11))) rfl dX9_addDoing_30 ?_
    refine b_aload_n hO dX9_addDoing_33 0 rfl rfl ?_
    refine b_get hO flX9_49 hq0 (v := .int (gI _ (128 * q0 + 12))) rfl dX9_addDoing_34 ?_
    refine b_iload_n hO dX9_addDoing_37 3 rfl rfl ?_
    refine b_iast hO (kt_9_11 hq0) (n := 6) (lt_9_11 hq0) dX9_addDoing_38 ?_
    refine b_bnd (fun M38 => ?_)
    refine b_aload_n hO dX9_addDoing_39 0 rfl rfl ?_
    refine b_dup hO dX9_addDoing_40 rfl ?_
    refine b_get hO flX9_49 hq0 (v := .int (gI _ (128 * q0 + 12))) rfl dX9_addDoing_41 ?_
    refine b_iconst hO dX9_addDoing_44 ic_i_1 ?_
    refine b_iadd hO dX9_addDoing_45 ?_
    refine b_putI hO flX9_49 hq0 rfl rfl rfl (id := (128 * q0 + 12)) rfl dX9_addDoing_46 ?_
    exact b_vret hO dX9_addDoing_49
theorem ctX9_addDoing (n0 : Nat) (q0 : Nat) (hq0 : isK LX q0 9) (hI : Inj LX ad) (x1 : Int32) (x2 : Int32) (x3 : Int32) (M : Mem) : CT l LX D cy ad yX9_addDoing cX9_addDoing 4 none 1 (QV LX D cy ad) [.ref (ad q0), .int x1, .int x2, .int x3] M (fX9_addDoing n0 q0 x1 x2 x3 M) :=
  CT.mk LXok hI (by decide) (Nat.le_of_ble_eq_true rfl) (fun hO => tfX9_addDoing n0 q0 hq0 hO x1 x2 x3 M)
end
