section
section
variable {p : Program} {l : Launch} {e : Env} {s : State} {m : MethodId} {args : Array Value} {below : List Frame} {meth : Method} {c : Code} {D : va_G} {cy : Nat → ClassId} {ad : Nat → Nat} {dd : Nat}

/-! X9_clear -/
def fX9_clear (n0 : Nat) (q0 : Nat) (M : Mem) : Option (Mem) :=
  bnd (sI M (128 * q0 + 0) (0 : Int32)) fun M2 =>
  bnd (sI M2 (128 * q0 + 1) (0 : Int32)) fun M7 =>
  bnd (sI M7 (128 * q0 + 5) (0 : Int32)) fun M12 =>
  bnd (sI M12 (128 * q0 + 8) (0 : Int32)) fun M17 =>
  bnd (sI M17 (128 * q0 + 12) (0 : Int32)) fun M22 =>
  bnd (sI M22 (128 * q0 + 16) (0 : Int32)) fun M27 =>
  bnd (sI M27 (128 * (q0 + 12) + 1) (0 : Int32)) fun M35 =>
  some (sI M35 (128 * (q0 + 14) + 1) (0 : Int32))
theorem tfX9_clear (n0 : Nat) (q0 : Nat) (hq0 : isK LX q0 9) (hO : OKc p (rmL 1) s m args meth c LX D cy ad cX9_clear RX9 1 1 none) (M : Mem) : BL p l e (rmL 1) s m args below meth c LX D cy ad 1 (QV LX D cy ad) 0 [(0, .ref (ad q0))] [] M (fX9_clear n0 q0 M) := by
  unfold fX9_clear
  refine b_aload_n hO dX9_clear_0 0 rfl rfl ?_
  refine b_iconst hO dX9_clear_1 ic_i_0 ?_
  refine b_putI hO flX9_9 hq0 rfl rfl rfl (id := (128 * q0 + 0)) rfl dX9_clear_2 ?_
  refine b_bnd (fun M2 => ?_)
  refine b_aload_n hO dX9_clear_5 0 rfl rfl ?_
  refine b_iconst hO dX9_clear_6 ic_i_0 ?_
  refine b_putI hO flX9_15 hq0 rfl rfl rfl (id := (128 * q0 + 1)) rfl dX9_clear_7 ?_
  refine b_bnd (fun M7 => ?_)
  refine b_aload_n hO dX9_clear_10 0 rfl rfl ?_
  refine b_iconst hO dX9_clear_11 ic_i_0 ?_
  refine b_putI hO flX9_28 hq0 rfl rfl rfl (id := (128 * q0 + 5)) rfl dX9_clear_12 ?_
  refine b_bnd (fun M12 => ?_)
  refine b_aload_n hO dX9_clear_15 0 rfl rfl ?_
  refine b_iconst hO dX9_clear_16 ic_i_0 ?_
  refine b_putI hO flX9_37 hq0 rfl rfl rfl (id := (128 * q0 + 8)) rfl dX9_clear_17 ?_
  refine b_bnd (fun M17 => ?_)
  refine b_aload_n hO dX9_clear_20 0 rfl rfl ?_
  refine b_iconst hO dX9_clear_21 ic_i_0 ?_
  refine b_putI hO flX9_49 hq0 rfl rfl rfl (id := (128 * q0 + 12)) rfl dX9_clear_22 ?_
  refine b_bnd (fun M22 => ?_)
  refine b_aload_n hO dX9_clear_25 0 rfl rfl ?_
  refine b_iconst hO dX9_clear_26 ic_i_0 ?_
  refine b_putI hO flX9_61 hq0 rfl rfl rfl (id := (128 * q0 + 16)) rfl dX9_clear_27 ?_
  refine b_bnd (fun M27 => ?_)
  refine b_aload_n hO dX9_clear_30 0 rfl rfl ?_
  refine b_get hO flX9_67 hq0 (v := .ref (ad (q0 + 12))) rfl dX9_clear_31 ?_
  refine b_iconst hO dX9_clear_34 ic_i_0 ?_
  refine b_putI hO flX9_74 (kt_9_12 hq0) rfl rfl rfl (id := (128 * (q0 + 12) + 1)) rfl dX9_clear_35 ?_
  refine b_bnd (fun M35 => ?_)
  refine b_aload_n hO dX9_clear_38 0 rfl rfl ?_
  refine b_get hO flX9_71 hq0 (v := .ref (ad (q0 + 14))) rfl dX9_clear_39 ?_
  refine b_iconst hO dX9_clear_42 ic_i_0 ?_
  refine b_putI hO flX9_74 (kt_9_14 hq0) rfl rfl rfl (id := (128 * (q0 + 14) + 1)) rfl dX9_clear_43 ?_
  exact b_vret hO dX9_clear_46
theorem ctX9_clear (n0 : Nat) (q0 : Nat) (hq0 : isK LX q0 9) (hI : Inj LX ad) (M : Mem) : CT l LX D cy ad yX9_clear cX9_clear 1 none 1 (QV LX D cy ad) [.ref (ad q0)] M (fX9_clear n0 q0 M) :=
  CT.mk LXok hI (by decide) (Nat.le_of_ble_eq_true rfl) (fun hO => tfX9_clear n0 q0 hq0 hO M)
/-! X9_isThing -/
def fX9_isThing (n0 : Nat) (q0 : Nat) (x1 : Int32) (M : Mem) : Option (Int32 × Mem) :=
  if x1 < 0 then
    some ((0 : Int32), M)
  else
    if (gI M (128 * q0 + 1)) ≤ x1 then
      some ((0 : Int32), M)
    else
      some ((1 : Int32), M)
theorem tfX9_isThing (n0 : Nat) (q0 : Nat) (hq0 : isK LX q0 9) (hO : OKc p (rmL 1) s m args meth c LX D cy ad cX9_isThing RX9 2 1 (some .boolean)) (x1 : Int32) (M : Mem) : BL p l e (rmL 1) s m args below meth c LX D cy ad 2 (QI LX D cy ad) 0 [(0, .ref (ad q0)), (1, .int x1)] [] M (fX9_isThing n0 q0 x1 M) := by
  unfold fX9_isThing
  refine b_iload_n hO dX9_isThing_0 1 rfl rfl ?_
  refine b_if_lt hO dX9_isThing_1 (tgt := 16) (by decide) ?_ ?_
  · refine b_iconst hO dX9_isThing_16 ic_i_0 ?_
    exact b_zretc hO (Or.inl rfl) dX9_isThing_17
  · refine b_iload_n hO dX9_isThing_4 1 rfl rfl ?_
    refine b_aload_n hO dX9_isThing_5 0 rfl rfl ?_
    refine b_get hO flX9_15 hq0 (v := .int (gI _ (128 * q0 + 1))) rfl dX9_isThing_6 ?_
    refine b_icmp_ge hO dX9_isThing_9 (tgt := 16) (by decide) ?_ ?_
    · refine b_iconst hO dX9_isThing_16 ic_i_0 ?_
      exact b_zretc hO (Or.inl rfl) dX9_isThing_17
    · refine b_iconst hO dX9_isThing_12 ic_i_1 ?_
      refine b_goto hO dX9_isThing_13 (tgt := 17) (by decide) ?_
      exact b_zretc hO (Or.inr rfl) dX9_isThing_17
theorem ctX9_isThing (n0 : Nat) (q0 : Nat) (hq0 : isK LX q0 9) (hI : Inj LX ad) (x1 : Int32) (M : Mem) : CT l LX D cy ad yX9_isThing cX9_isThing 2 (some .boolean) 1 (QI LX D cy ad) [.ref (ad q0), .int x1] M (fX9_isThing n0 q0 x1 M) :=
  CT.mk LXok hI (by decide) (Nat.le_of_ble_eq_true rfl) (fun hO => tfX9_isThing n0 q0 hq0 hO x1 M)
/-! X9_isCorner -/
def fX9_isCorner (n0 : Nat) (q0 : Nat) (x1 : Int32) (M : Mem) : Option (Int32 × Mem) :=
  if x1 < 0 then
    some ((0 : Int32), M)
  else
    if (gI M (128 * q0 + 5)) ≤ x1 then
      some ((0 : Int32), M)
    else
      some ((1 : Int32), M)
theorem tfX9_isCorner (n0 : Nat) (q0 : Nat) (hq0 : isK LX q0 9) (hO : OKc p (rmL 1) s m args meth c LX D cy ad cX9_isCorner RX9 2 1 (some .boolean)) (x1 : Int32) (M : Mem) : BL p l e (rmL 1) s m args below meth c LX D cy ad 2 (QI LX D cy ad) 0 [(0, .ref (ad q0)), (1, .int x1)] [] M (fX9_isCorner n0 q0 x1 M) := by
  unfold fX9_isCorner
  refine b_iload_n hO dX9_isCorner_0 1 rfl rfl ?_
  refine b_if_lt hO dX9_isCorner_1 (tgt := 16) (by decide) ?_ ?_
  · refine b_iconst hO dX9_isCorner_16 ic_i_0 ?_
    exact b_zretc hO (Or.inl rfl) dX9_isCorner_17
  · refine b_iload_n hO dX9_isCorner_4 1 rfl rfl ?_
    refine b_aload_n hO dX9_isCorner_5 0 rfl rfl ?_
    refine b_get hO flX9_28 hq0 (v := .int (gI _ (128 * q0 + 5))) rfl dX9_isCorner_6 ?_
    refine b_icmp_ge hO dX9_isCorner_9 (tgt := 16) (by decide) ?_ ?_
    · refine b_iconst hO dX9_isCorner_16 ic_i_0 ?_
      exact b_zretc hO (Or.inl rfl) dX9_isCorner_17
    · refine b_iconst hO dX9_isCorner_12 ic_i_1 ?_
      refine b_goto hO dX9_isCorner_13 (tgt := 17) (by decide) ?_
      exact b_zretc hO (Or.inr rfl) dX9_isCorner_17
theorem ctX9_isCorner (n0 : Nat) (q0 : Nat) (hq0 : isK LX q0 9) (hI : Inj LX ad) (x1 : Int32) (M : Mem) : CT l LX D cy ad yX9_isCorner cX9_isCorner 2 (some .boolean) 1 (QI LX D cy ad) [.ref (ad q0), .int x1] M (fX9_isCorner n0 q0 x1 M) :=
  CT.mk LXok hI (by decide) (Nat.le_of_ble_eq_true rfl) (fun hO => tfX9_isCorner n0 q0 hq0 hO x1 M)
/-! X9_isDoing -/
def fX9_isDoing (n0 : Nat) (q0 : Nat) (x1 : Int32) (M : Mem) : Option (Int32 × Mem) :=
  if x1 < 0 then
    some ((0 : Int32), M)
  else
    if (gI M (128 * q0 + 12)) ≤ x1 then
      some ((0 : Int32), M)
    else
      some ((1 : Int32), M)
theorem tfX9_isDoing (n0 : Nat) (q0 : Nat) (hq0 : isK LX q0 9) (hO : OKc p (rmL 1) s m args meth c LX D cy ad cX9_isDoing RX9 2 1 (some .boolean)) (x1 : Int32) (M : Mem) : BL p l e (rmL 1) s m args below meth c LX D cy ad 2 (QI LX D cy ad) 0 [(0, .ref (ad q0)), (1, .int x1)] [] M (fX9_isDoing n0 q0 x1 M) := by
  unfold fX9_isDoing
  refine b_iload_n hO dX9_isDoing_0 1 rfl rfl ?_
  refine b_if_lt hO dX9_isDoing_1 (tgt := 16) (by decide) ?_ ?_
  · refine b_iconst hO dX9_isDoing_16 ic_i_0 ?_
    exact b_zretc hO (Or.inl rfl) dX9_isDoing_17
  · refine b_iload_n hO dX9_isDoing_4 1 rfl rfl ?_
    refine b_aload_n hO dX9_isDoing_5 0 rfl rfl ?_
    refine b_get hO flX9_49 hq0 (v := .int (gI _ (128 * q0 + 12))) rfl dX9_isDoing_6 ?_
    refine b_icmp_ge hO dX9_isDoing_9 (tgt := 16) (by decide) ?_ ?_
    · refine b_iconst hO dX9_isDoing_16 ic_i_0 ?_
      exact b_zretc hO (Or.inl rfl) dX9_isDoing_17
    · refine b_iconst hO dX9_isDoing_12 ic_i_1 ?_
      refine b_goto hO dX9_isDoing_13 (tgt := 17) (by decide) ?_
      exact b_zretc hO (Or.inr rfl) dX9_isDoing_17
theorem ctX9_isDoing (n0 : Nat) (q0 : Nat) (hq0 : isK LX q0 9) (hI : Inj LX ad) (x1 : Int32) (M : Mem) : CT l LX D cy ad yX9_isDoing cX9_isDoing 2 (some .boolean) 1 (QI LX D cy ad) [.ref (ad q0), .int x1] M (fX9_isDoing n0 q0 x1 M) :=
  CT.mk LXok hI (by decide) (Nat.le_of_ble_eq_true rfl) (fun hO => tfX9_isDoing n0 q0 hq0 hO x1 M)
/-! X9_find -/
def bX9_find_2 (n0 : Nat) (q0 : Nat) (k2 : Int32 → Int32 → Int32 → Mem → Option (Int32 × Mem)) (x1 : Int32) (x2 : Int32) (x3 : Int32) (M : Mem) : Option (Int32 × Mem) :=
  if x1 ≤ x3 then
    some ((-1 : Int32), M)
  else
    if (Int32.ofNat (LX.ln q0)) ≤ x3 then
      some ((-1 : Int32), M)
    else
      if oob x3 (LX.ln q0) then none else
      if (gA M q0 (Int32.toNatClampNeg x3)) = x2 then
        some (x3, M)
      else
        k2 x1 x2 (x3 + (1 : Int32)) M
def fX9_find_2 (n0 : Nat) (q0 : Nat) : Int32 → Int32 → Int32 → Mem → Option (Int32 × Mem) := loopN (bX9_find_2 n0 q0) (fun _ _ _ _ => none) n0
def fX9_find (n0 : Nat) (q0 : Nat) (x1 : Int32) (x2 : Int32) (M : Mem) : Option (Int32 × Mem) :=
  fX9_find_2 n0 q0 x1 x2 (0 : Int32) M
theorem tbX9_find_2 (n0 : Nat) (q0 : Nat) (hq0 : isK LX q0 13) (hO : OKc p (rmL 1) s m args meth c LX D cy ad cX9_find RX9 4 1 (some .int)) (k2 : Int32 → Int32 → Int32 → Mem → Option (Int32 × Mem)) (hk2 : ∀ (x1 : Int32) (x2 : Int32) (x3 : Int32) (M : Mem), BL p l e (rmL 1) s m args below meth c LX D cy ad 4 (QI LX D cy ad) 2 [(0, .ref (ad q0)), (1, .int x1), (2, .int x2), (3, .int x3)] [] M (k2 x1 x2 x3 M)) (x1 : Int32) (x2 : Int32) (x3 : Int32) (M : Mem) : BL p l e (rmL 1) s m args below meth c LX D cy ad 4 (QI LX D cy ad) 2 [(0, .ref (ad q0)), (1, .int x1), (2, .int x2), (3, .int x3)] [] M (bX9_find_2 n0 q0 k2 x1 x2 x3 M) := by
  unfold bX9_find_2
  refine b_iload_n hO dX9_find_2 3 rfl rfl ?_
  refine b_iload_n hO dX9_find_3 1 rfl rfl ?_
  refine b_icmp_ge hO dX9_find_4 (tgt := 28) (by decide) ?_ ?_
  · refine b_iconst hO dX9_find_28 ic_i_m1 ?_
    exact b_iret hO dX9_find_29
  · refine b_iload_n hO dX9_find_7 3 rfl rfl ?_
    refine b_aload_n hO dX9_find_8 0 rfl rfl ?_
    refine b_alen hO hq0 rfl dX9_find_9 ?_
    refine b_icmp_ge hO dX9_find_10 (tgt := 28) (by decide) ?_ ?_
    · refine b_iconst hO dX9_find_28 ic_i_m1 ?_
      exact b_iret hO dX9_find_29
    · refine b_aload_n hO dX9_find_13 0 rfl rfl ?_
      refine b_iload_n hO dX9_find_14 3 rfl rfl ?_
      refine b_iald hO hq0 (n := (LX.ln q0)) rfl dX9_find_15 ?_
      refine b_iload_n hO dX9_find_16 2 rfl rfl ?_
      refine b_icmp_ne hO dX9_find_17 (tgt := 22) (by decide) ?_ ?_
      · refine b_iinc hO dX9_find_22 3 rfl ic_i_1 (by decide) (lv' := [(3, .int _), (0, .ref _), (1, .int _), (2, .int _)]) rfl ?_
        refine b_goto hO dX9_find_25 (tgt := 2) (by decide) ?_
        refine b_sub [1, 2, 3, 0] rfl ?_
        exact hk2 _ _ _ _
      · refine b_iload_n hO dX9_find_20 3 rfl rfl ?_
        exact b_iret hO dX9_find_21
theorem lX9_find_2 (n0 : Nat) (q0 : Nat) (hq0 : isK LX q0 13) (hO : OKc p (rmL 1) s m args meth c LX D cy ad cX9_find RX9 4 1 (some .int)) : ∀ (w : Nat) (x1 : Int32) (x2 : Int32) (x3 : Int32) (M : Mem), BL p l e (rmL 1) s m args below meth c LX D cy ad 4 (QI LX D cy ad) 2 [(0, .ref (ad q0)), (1, .int x1), (2, .int x2), (3, .int x3)] [] M (loopN (bX9_find_2 n0 q0) (fun _ _ _ _ => none) w x1 x2 x3 M) := by
  intro w
  induction w with
  | zero =>
    intros
    exact b_none
  | succ w ih =>
    intro x1 x2 x3 M
    exact tbX9_find_2 n0 q0 hq0 hO _ ih x1 x2 x3 M
theorem tfX9_find_2 (n0 : Nat) (q0 : Nat) (hq0 : isK LX q0 13) (hO : OKc p (rmL 1) s m args meth c LX D cy ad cX9_find RX9 4 1 (some .int)) (x1 : Int32) (x2 : Int32) (x3 : Int32) (M : Mem) : BL p l e (rmL 1) s m args below meth c LX D cy ad 4 (QI LX D cy ad) 2 [(0, .ref (ad q0)), (1, .int x1), (2, .int x2), (3, .int x3)] [] M (fX9_find_2 n0 q0 x1 x2 x3 M) := lX9_find_2 n0 q0 hq0 hO n0 x1 x2 x3 M
theorem tfX9_find (n0 : Nat) (q0 : Nat) (hq0 : isK LX q0 13) (hO : OKc p (rmL 1) s m args meth c LX D cy ad cX9_find RX9 4 1 (some .int)) (x1 : Int32) (x2 : Int32) (M : Mem) : BL p l e (rmL 1) s m args below meth c LX D cy ad 4 (QI LX D cy ad) 0 [(0, .ref (ad q0)), (1, .int x1), (2, .int x2)] [] M (fX9_find n0 q0 x1 x2 M) := by
  unfold fX9_find
  refine b_iconst hO dX9_find_0 ic_i_0 ?_
  refine b_istore_n hO dX9_find_1 rfl (by decide) (lv' := [(3, .int _), (0, .ref _), (1, .int _), (2, .int _)]) rfl ?_
  refine b_sub [1, 2, 3, 0] rfl ?_
  exact tfX9_find_2 n0 q0 hq0 hO _ _ _ _
theorem ctX9_find (n0 : Nat) (q0 : Nat) (hq0 : isK LX q0 13) (hI : Inj LX ad) (x1 : Int32) (x2 : Int32) (M : Mem) : CT l LX D cy ad yX9_find cX9_find 4 (some .int) 1 (QI LX D cy ad) [.ref (ad q0), .int x1, .int x2] M (fX9_find n0 q0 x1 x2 M) :=
  CT.mk LXok hI (by decide) (Nat.le_of_ble_eq_true rfl) (fun hO => tfX9_find n0 q0 hq0 hO x1 x2 M)
/-! X9_findThing -/
def fX9_findThing (n0 : Nat) (q0 : Nat) (x1 : Int32) (M : Mem) : Option (Int32 × Mem) :=
  (fX9_find n0 (q0 + 1) (gI M (128 * q0 + 1)) x1 M).bind fun z9 =>
  some (z9.1, z9.2)
theorem tfX9_findThing (n0 : Nat) (q0 : Nat) (hq0 : isK LX q0 9) (hO : OKc p (rmL 2) s m args meth c LX D cy ad cX9_findThing RX9 2 2 (some .int)) (x1 : Int32) (M : Mem) : BL p l e (rmL 2) s m args below meth c LX D cy ad 2 (QI LX D cy ad) 0 [(0, .ref (ad q0)), (1, .int x1)] [] M (fX9_findThing n0 q0 x1 M) := by
  unfold fX9_findThing
  refine b_aload_n hO dX9_findThing_0 0 rfl rfl ?_
  refine b_get hO flX9_18 hq0 (v := .ref (ad (q0 + 1))) rfl dX9_findThing_1 ?_
  refine b_aload_n hO dX9_findThing_4 0 rfl rfl ?_
  refine b_get hO flX9_15 hq0 (v := .int (gI _ (128 * q0 + 1))) rfl dX9_findThing_5 ?_
  refine b_iload_n hO dX9_findThing_8 1 rfl rfl ?_
  refine b_callSI hO mdX9_find w764 w763 (As := [.ref _, .int _, .int _]) (st := []) (ctX9_find n0 _ (kt_9_1 hq0) hO.2.2.2.2.2.2.1 _ _ _) (Nat.le_of_ble_eq_true rfl) rfl rfl (Nat.le_of_ble_eq_true rfl) dX9_findThing_9 (fun z9 => ?_)
  exact b_iret hO dX9_findThing_12
theorem ctX9_findThing (n0 : Nat) (q0 : Nat) (hq0 : isK LX q0 9) (hI : Inj LX ad) (x1 : Int32) (M : Mem) : CT l LX D cy ad yX9_findThing cX9_findThing 2 (some .int) 2 (QI LX D cy ad) [.ref (ad q0), .int x1] M (fX9_findThing n0 q0 x1 M) :=
  CT.mk LXok hI (by decide) (Nat.le_of_ble_eq_true rfl) (fun hO => tfX9_findThing n0 q0 hq0 hO x1 M)
/-! X9_findCorner -/
def fX9_findCorner (n0 : Nat) (q0 : Nat) (x1 : Int32) (M : Mem) : Option (Int32 × Mem) :=
  (fX9_find n0 (q0 + 4) (gI M (128 * q0 + 5)) x1 M).bind fun z9 =>
  some (z9.1, z9.2)
theorem tfX9_findCorner (n0 : Nat) (q0 : Nat) (hq0 : isK LX q0 9) (hO : OKc p (rmL 2) s m args meth c LX D cy ad cX9_findCorner RX9 2 2 (some .int)) (x1 : Int32) (M : Mem) : BL p l e (rmL 2) s m args below meth c LX D cy ad 2 (QI LX D cy ad) 0 [(0, .ref (ad q0)), (1, .int x1)] [] M (fX9_findCorner n0 q0 x1 M) := by
  unfold fX9_findCorner
  refine b_aload_n hO dX9_findCorner_0 0 rfl rfl ?_
  refine b_get hO flX9_31 hq0 (v := .ref (ad (q0 + 4))) rfl dX9_findCorner_1 ?_
  refine b_aload_n hO dX9_findCorner_4 0 rfl rfl ?_
  refine b_get hO flX9_28 hq0 (v := .int (gI _ (128 * q0 + 5))) rfl dX9_findCorner_5 ?_
  refine b_iload_n hO dX9_findCorner_8 1 rfl rfl ?_
  refine b_callSI hO mdX9_find w764 w763 (As := [.ref _, .int _, .int _]) (st := []) (ctX9_find n0 _ (kt_9_4 hq0) hO.2.2.2.2.2.2.1 _ _ _) (Nat.le_of_ble_eq_true rfl) rfl rfl (Nat.le_of_ble_eq_true rfl) dX9_findCorner_9 (fun z9 => ?_)
  exact b_iret hO dX9_findCorner_12
theorem ctX9_findCorner (n0 : Nat) (q0 : Nat) (hq0 : isK LX q0 9) (hI : Inj LX ad) (x1 : Int32) (M : Mem) : CT l LX D cy ad yX9_findCorner cX9_findCorner 2 (some .int) 2 (QI LX D cy ad) [.ref (ad q0), .int x1] M (fX9_findCorner n0 q0 x1 M) :=
  CT.mk LXok hI (by decide) (Nat.le_of_ble_eq_true rfl) (fun hO => tfX9_findCorner n0 q0 hq0 hO x1 M)
/-! X9_findDoing -/
def fX9_findDoing (n0 : Nat) (q0 : Nat) (x1 : Int32) (M : Mem) : Option (Int32 × Mem) :=
  (fX9_find n0 (q0 + 9) (gI M (128 * q0 + 12)) x1 M).bind fun z9 =>
  some (z9.1, z9.2)
theorem tfX9_findDoing (n0 : Nat) (q0 : Nat) (hq0 : isK LX q0 9) (hO : OKc p (rmL 2) s m args meth c LX D cy ad cX9_findDoing RX9 2 2 (some .int)) (x1 : Int32) (M : Mem) : BL p l e (rmL 2) s m args below meth c LX D cy ad 2 (QI LX D cy ad) 0 [(0, .ref (ad q0)), (1, .int x1)] [] M (fX9_findDoing n0 q0 x1 M) := by
  unfold fX9_findDoing
  refine b_aload_n hO dX9_findDoing_0 0 rfl rfl ?_
  refine b_get hO flX9_52 hq0 (v := .ref (ad (q0 + 9))) rfl dX9_findDoing_1 ?_
  refine b_aload_n hO dX9_findDoing_4 0 rfl rfl ?_
  refine b_get hO flX9_49 hq0 (v := .int (gI _ (128 * q0 + 12))) rfl dX9_findDoing_5 ?_
  refine b_iload_n hO dX9_findDoing_8 1 rfl rfl ?_
  refine b_callSI hO mdX9_find w764 w763 (As := [.ref _, .int _, .int _]) (st := []) (ctX9_find n0 _ (kt_9_9 hq0) hO.2.2.2.2.2.2.1 _ _ _) (Nat.le_of_ble_eq_true rfl) rfl rfl (Nat.le_of_ble_eq_true rfl) dX9_findDoing_9 (fun z9 => ?_)
  exact b_iret hO dX9_findDoing_12
theorem ctX9_findDoing (n0 : Nat) (q0 : Nat) (hq0 : isK LX q0 9) (hI : Inj LX ad) (x1 : Int32) (M : Mem) : CT l LX D cy ad yX9_findDoing cX9_findDoing 2 (some .int) 2 (QI LX D cy ad) [.ref (ad q0), .int x1] M (fX9_findDoing n0 q0 x1 M) :=
  CT.mk LXok hI (by decide) (Nat.le_of_ble_eq_true rfl) (fun hO => tfX9_findDoing n0 q0 hq0 hO x1 M)
/-! X9_hasRoad -/
def fX9_hasRoad_62 (n0 : Nat) (q0 : Nat) (k2 : Int32 → Int32 → Int32 → Mem → Option (Int32 × Mem)) (x1 : Int32) (x2 : Int32) (x3 : Int32) (x4 : Int32) (u0 : Int32) (M : Mem) : Option (Int32 × Mem) :=
  if x4 = 0 then
    if u0 = 0 then
      k2 x1 x2 (x3 + (1 : Int32)) M
    else
      some ((1 : Int32), M)
  else
    some ((1 : Int32), M)
def fX9_hasRoad_61 (n0 : Nat) (q0 : Nat) (k2 : Int32 → Int32 → Int32 → Mem → Option (Int32 × Mem)) (x1 : Int32) (x2 : Int32) (x3 : Int32) (x4 : Int32) (M : Mem) : Option (Int32 × Mem) :=
  fX9_hasRoad_62 n0 q0 k2 x1 x2 x3 x4 (0 : Int32) M
def fX9_hasRoad_35 (n0 : Nat) (q0 : Nat) (k2 : Int32 → Int32 → Int32 → Mem → Option (Int32 × Mem)) (x1 : Int32) (x2 : Int32) (x3 : Int32) (u0 : Int32) (M : Mem) : Option (Int32 × Mem) :=
  if oob x3 10 then none else
  if (gA M (q0 + 6) (Int32.toNatClampNeg x3)) = x2 then
    if oob x3 10 then none else
    if (gA M (q0 + 7) (Int32.toNatClampNeg x3)) = x1 then
      fX9_hasRoad_62 n0 q0 k2 x1 x2 x3 u0 (1 : Int32) M
    else
      fX9_hasRoad_61 n0 q0 k2 x1 x2 x3 u0 M
  else
    fX9_hasRoad_61 n0 q0 k2 x1 x2 x3 u0 M
def fX9_hasRoad_34 (n0 : Nat) (q0 : Nat) (k2 : Int32 → Int32 → Int32 → Mem → Option (Int32 × Mem)) (x1 : Int32) (x2 : Int32) (x3 : Int32) (M : Mem) : Option (Int32 × Mem) :=
  fX9_hasRoad_35 n0 q0 k2 x1 x2 x3 (0 : Int32) M
def bX9_hasRoad_2 (n0 : Nat) (q0 : Nat) (k2 : Int32 → Int32 → Int32 → Mem → Option (Int32 × Mem)) (x1 : Int32) (x2 : Int32) (x3 : Int32) (M : Mem) : Option (Int32 × Mem) :=
  if (gI M (128 * q0 + 8)) ≤ x3 then
    some ((0 : Int32), M)
  else
    if oob x3 10 then none else
    if (gA M (q0 + 6) (Int32.toNatClampNeg x3)) = x1 then
      if oob x3 10 then none else
      if (gA M (q0 + 7) (Int32.toNatClampNeg x3)) = x2 then
        fX9_hasRoad_35 n0 q0 k2 x1 x2 x3 (1 : Int32) M
      else
        fX9_hasRoad_34 n0 q0 k2 x1 x2 x3 M
    else
      fX9_hasRoad_34 n0 q0 k2 x1 x2 x3 M
def fX9_hasRoad_2 (n0 : Nat) (q0 : Nat) : Int32 → Int32 → Int32 → Mem → Option (Int32 × Mem) := loopN (bX9_hasRoad_2 n0 q0) (fun _ _ _ _ => none) n0
def fX9_hasRoad (n0 : Nat) (q0 : Nat) (x1 : Int32) (x2 : Int32) (M : Mem) : Option (Int32 × Mem) :=
  fX9_hasRoad_2 n0 q0 x1 x2 (0 : Int32) M
theorem tfX9_hasRoad_62 (n0 : Nat) (q0 : Nat) (hq0 : isK LX q0 9) (hO : OKc p (rmL 1) s m args meth c LX D cy ad cX9_hasRoad RX9 6 1 (some .boolean)) (k2 : Int32 → Int32 → Int32 → Mem → Option (Int32 × Mem)) (hk2 : ∀ (x1 : Int32) (x2 : Int32) (x3 : Int32) (M : Mem), BL p l e (rmL 1) s m args below meth c LX D cy ad 6 (QI LX D cy ad) 2 [(0, .ref (ad q0)), (1, .int x1), (2, .int x2), (3, .int x3)] [] M (k2 x1 x2 x3 M)) (x1 : Int32) (x2 : Int32) (x3 : Int32) (x4 : Int32) (u0 : Int32) (M : Mem) : BL p l e (rmL 1) s m args below meth c LX D cy ad 6 (QI LX D cy ad) 62 [(0, .ref (ad q0)), (1, .int x1), (2, .int x2), (3, .int x3), (4, .int x4)] [.int u0] M (fX9_hasRoad_62 n0 q0 k2 x1 x2 x3 x4 u0 M) := by
  unfold fX9_hasRoad_62
  refine b_istore hO dX9_hasRoad_62 (by decide) (lv' := [(5, .int _), (0, .ref _), (1, .int _), (2, .int _), (3, .int _), (4, .int _)]) rfl ?_
  refine b_iload hO dX9_hasRoad_64 5 rfl ?_
  refine b_if_ne hO dX9_hasRoad_66 (tgt := 74) (by decide) ?_ ?_
  · refine b_iconst hO dX9_hasRoad_74 ic_i_1 ?_
    exact b_zretc hO (Or.inr rfl) dX9_hasRoad_75
  · refine b_iload hO dX9_hasRoad_69 0 rfl ?_
    refine b_if_eq hO dX9_hasRoad_71 (tgt := 76) (by decide) ?_ ?_
    · refine b_iinc hO dX9_hasRoad_76 4 rfl ic_i_1 (by decide) (lv' := [(3, .int _), (5, .int _), (0, .ref _), (1, .int _), (2, .int _), (4, .int _)]) rfl ?_
      refine b_goto hO dX9_hasRoad_79 (tgt := 2) (by decide) ?_
      refine b_sub [2, 3, 4, 0] rfl ?_
      exact hk2 _ _ _ _
    · refine b_iconst hO dX9_hasRoad_74 ic_i_1 ?_
      exact b_zretc hO (Or.inr rfl) dX9_hasRoad_75
theorem tfX9_hasRoad_61 (n0 : Nat) (q0 : Nat) (hq0 : isK LX q0 9) (hO : OKc p (rmL 1) s m args meth c LX D cy ad cX9_hasRoad RX9 6 1 (some .boolean)) (k2 : Int32 → Int32 → Int32 → Mem → Option (Int32 × Mem)) (hk2 : ∀ (x1 : Int32) (x2 : Int32) (x3 : Int32) (M : Mem), BL p l e (rmL 1) s m args below meth c LX D cy ad 6 (QI LX D cy ad) 2 [(0, .ref (ad q0)), (1, .int x1), (2, .int x2), (3, .int x3)] [] M (k2 x1 x2 x3 M)) (x1 : Int32) (x2 : Int32) (x3 : Int32) (x4 : Int32) (M : Mem) : BL p l e (rmL 1) s m args below meth c LX D cy ad 6 (QI LX D cy ad) 61 [(0, .ref (ad q0)), (1, .int x1), (2, .int x2), (3, .int x3), (4, .int x4)] [] M (fX9_hasRoad_61 n0 q0 k2 x1 x2 x3 x4 M) := by
  unfold fX9_hasRoad_61
  refine b_iconst hO dX9_hasRoad_61 ic_i_0 ?_
  exact tfX9_hasRoad_62 n0 q0 hq0 hO k2 hk2 _ _ _ _ _ _
theorem tfX9_hasRoad_35 (n0 : Nat) (q0 : Nat) (hq0 : isK LX q0 9) (hO : OKc p (rmL 1) s m args meth c LX D cy ad cX9_hasRoad RX9 6 1 (some .boolean)) (k2 : Int32 → Int32 → Int32 → Mem → Option (Int32 × Mem)) (hk2 : ∀ (x1 : Int32) (x2 : Int32) (x3 : Int32) (M : Mem), BL p l e (rmL 1) s m args below meth c LX D cy ad 6 (QI LX D cy ad) 2 [(0, .ref (ad q0)), (1, .int x1), (2, .int x2), (3, .int x3)] [] M (k2 x1 x2 x3 M)) (x1 : Int32) (x2 : Int32) (x3 : Int32) (u0 : Int32) (M : Mem) : BL p l e (rmL 1) s m args below meth c LX D cy ad 6 (QI LX D cy ad) 35 [(0, .ref (ad q0)), (1, .int x1), (2, .int x2), (3, .int x3)] [.int u0] M (fX9_hasRoad_35 n0 q0 k2 x1 x2 x3 u0 M) := by
  unfold fX9_hasRoad_35
  refine b_istore hO dX9_hasRoad_35 (by decide) (lv' := [(4, .int _), (0, .ref _), (1, .int _), (2, .int _), (3, .int _)]) rfl ?_
  refine b_aload_n hO dX9_hasRoad_37 1 rfl rfl ?_
  refine b_get hO flX9_40 hq0 (v := .ref (ad (q0 + 6))) rfl dX9_hasRoad_38 ?_
  refine b_iload_n hO dX9_hasRoad_41 4 rfl rfl ?_
  refine b_iald hO (kt_9_6 hq0) (n := 10) (lt_9_6 hq0) dX9_hasRoad_42 ?_
  refine b_iload_n hO dX9_hasRoad_43 3 rfl rfl ?_
  refine b_icmp_ne hO dX9_hasRoad_44 (tgt := 61) (by decide) ?_ ?_
  · refine b_sub [1, 2, 3, 4, 0] rfl ?_
    exact tfX9_hasRoad_61 n0 q0 hq0 hO k2 hk2 _ _ _ _ _
  · refine b_aload_n hO dX9_hasRoad_47 1 rfl rfl ?_
    refine b_get hO flX9_43 hq0 (v := .ref (ad (q0 + 7))) rfl dX9_hasRoad_48 ?_
    refine b_iload_n hO dX9_hasRoad_51 4 rfl rfl ?_
    refine b_iald hO (kt_9_7 hq0) (n := 10) (lt_9_7 hq0) dX9_hasRoad_52 ?_
    refine b_iload_n hO dX9_hasRoad_53 2 rfl rfl ?_
    refine b_icmp_ne hO dX9_hasRoad_54 (tgt := 61) (by decide) ?_ ?_
    · refine b_sub [1, 2, 3, 4, 0] rfl ?_
      exact tfX9_hasRoad_61 n0 q0 hq0 hO k2 hk2 _ _ _ _ _
    · refine b_iconst hO dX9_hasRoad_57 ic_i_1 ?_
      refine b_goto hO dX9_hasRoad_58 (tgt := 62) (by decide) ?_
      refine b_sub [1, 2, 3, 4, 0] rfl ?_
      exact tfX9_hasRoad_62 n0 q0 hq0 hO k2 hk2 _ _ _ _ _ _
theorem tfX9_hasRoad_34 (n0 : Nat) (q0 : Nat) (hq0 : isK LX q0 9) (hO : OKc p (rmL 1) s m args meth c LX D cy ad cX9_hasRoad RX9 6 1 (some .boolean)) (k2 : Int32 → Int32 → Int32 → Mem → Option (Int32 × Mem)) (hk2 : ∀ (x1 : Int32) (x2 : Int32) (x3 : Int32) (M : Mem), BL p l e (rmL 1) s m args below meth c LX D cy ad 6 (QI LX D cy ad) 2 [(0, .ref (ad q0)), (1, .int x1), (2, .int x2), (3, .int x3)] [] M (k2 x1 x2 x3 M)) (x1 : Int32) (x2 : Int32) (x3 : Int32) (M : Mem) : BL p l e (rmL 1) s m args below meth c LX D cy ad 6 (QI LX D cy ad) 34 [(0, .ref (ad q0)), (1, .int x1), (2, .int x2), (3, .int x3)] [] M (fX9_hasRoad_34 n0 q0 k2 x1 x2 x3 M) := by
  unfold fX9_hasRoad_34
  refine b_iconst hO dX9_hasRoad_34 ic_i_0 ?_
  exact tfX9_hasRoad_35 n0 q0 hq0 hO k2 hk2 _ _ _ _ _
theorem tbX9_hasRoad_2 (n0 : Nat) (q0 : Nat) (hq0 : isK LX q0 9) (hO : OKc p (rmL 1) s m args meth c LX D cy ad cX9_hasRoad RX9 6 1 (some .boolean)) (k2 : Int32 → Int32 → Int32 → Mem → Option (Int32 × Mem)) (hk2 : ∀ (x1 : Int32) (x2 : Int32) (x3 : Int32) (M : Mem), BL p l e (rmL 1) s m args below meth c LX D cy ad 6 (QI LX D cy ad) 2 [(0, .ref (ad q0)), (1, .int x1), (2, .int x2), (3, .int x3)] [] M (k2 x1 x2 x3 M)) (x1 : Int32) (x2 : Int32) (x3 : Int32) (M : Mem) : BL p l e (rmL 1) s m args below meth c LX D cy ad 6 (QI LX D cy ad) 2 [(0, .ref (ad q0)), (1, .int x1), (2, .int x2), (3, .int x3)] [] M (bX9_hasRoad_2 n0 q0 k2 x1 x2 x3 M) := by
  unfold bX9_hasRoad_2
  refine b_iload_n hO dX9_hasRoad_2 3 rfl rfl ?_
  refine b_aload_n hO dX9_hasRoad_3 0 rfl rfl ?_
  refine b_get hO flX9_37 hq0 (v := .int (gI _ (128 * q0 + 8))) rfl dX9_hasRoad_4 ?_
  refine b_icmp_ge hO dX9_hasRoad_7 (tgt := 82) (by decide) ?_ ?_
  · refine b_iconst hO dX9_hasRoad_82 ic_i_0 ?_
    exact b_zretc hO (Or.inl rfl) dX9_hasRoad_83
  · refine b_aload_n hO dX9_hasRoad_10 0 rfl rfl ?_
    refine b_get hO flX9_40 hq0 (v := .ref (ad (q0 + 6))) rfl dX9_hasRoad_11 ?_
    refine b_iload_n hO dX9_hasRoad_14 3 rfl rfl ?_
    refine b_iald hO (kt_9_6 hq0) (n := 10) (lt_9_6 hq0) dX9_hasRoad_15 ?_
    refine b_iload_n hO dX9_hasRoad_16 1 rfl rfl ?_
    refine b_icmp_ne hO dX9_hasRoad_17 (tgt := 34) (by decide) ?_ ?_
    · exact tfX9_hasRoad_34 n0 q0 hq0 hO k2 hk2 _ _ _ _
    · refine b_aload_n hO dX9_hasRoad_20 0 rfl rfl ?_
      refine b_get hO flX9_43 hq0 (v := .ref (ad (q0 + 7))) rfl dX9_hasRoad_21 ?_
      refine b_iload_n hO dX9_hasRoad_24 3 rfl rfl ?_
      refine b_iald hO (kt_9_7 hq0) (n := 10) (lt_9_7 hq0) dX9_hasRoad_25 ?_
      refine b_iload_n hO dX9_hasRoad_26 2 rfl rfl ?_
      refine b_icmp_ne hO dX9_hasRoad_27 (tgt := 34) (by decide) ?_ ?_
      · exact tfX9_hasRoad_34 n0 q0 hq0 hO k2 hk2 _ _ _ _
      · refine b_iconst hO dX9_hasRoad_30 ic_i_1 ?_
        refine b_goto hO dX9_hasRoad_31 (tgt := 35) (by decide) ?_
        exact tfX9_hasRoad_35 n0 q0 hq0 hO k2 hk2 _ _ _ _ _
theorem lX9_hasRoad_2 (n0 : Nat) (q0 : Nat) (hq0 : isK LX q0 9) (hO : OKc p (rmL 1) s m args meth c LX D cy ad cX9_hasRoad RX9 6 1 (some .boolean)) : ∀ (w : Nat) (x1 : Int32) (x2 : Int32) (x3 : Int32) (M : Mem), BL p l e (rmL 1) s m args below meth c LX D cy ad 6 (QI LX D cy ad) 2 [(0, .ref (ad q0)), (1, .int x1), (2, .int x2), (3, .int x3)] [] M (loopN (bX9_hasRoad_2 n0 q0) (fun _ _ _ _ => none) w x1 x2 x3 M) := by
  intro w
  induction w with
  | zero =>
    intros
    exact b_none
  | succ w ih =>
    intro x1 x2 x3 M
    exact tbX9_hasRoad_2 n0 q0 hq0 hO _ ih x1 x2 x3 M
theorem tfX9_hasRoad_2 (n0 : Nat) (q0 : Nat) (hq0 : isK LX q0 9) (hO : OKc p (rmL 1) s m args meth c LX D cy ad cX9_hasRoad RX9 6 1 (some .boolean)) (x1 : Int32) (x2 : Int32) (x3 : Int32) (M : Mem) : BL p l e (rmL 1) s m args below meth c LX D cy ad 6 (QI LX D cy ad) 2 [(0, .ref (ad q0)), (1, .int x1), (2, .int x2), (3, .int x3)] [] M (fX9_hasRoad_2 n0 q0 x1 x2 x3 M) := lX9_hasRoad_2 n0 q0 hq0 hO n0 x1 x2 x3 M
theorem tfX9_hasRoad (n0 : Nat) (q0 : Nat) (hq0 : isK LX q0 9) (hO : OKc p (rmL 1) s m args meth c LX D cy ad cX9_hasRoad RX9 6 1 (some .boolean)) (x1 : Int32) (x2 : Int32) (M : Mem) : BL p l e (rmL 1) s m args below meth c LX D cy ad 6 (QI LX D cy ad) 0 [(0, .ref (ad q0)), (1, .int x1), (2, .int x2)] [] M (fX9_hasRoad n0 q0 x1 x2 M) := by
  unfold fX9_hasRoad
  refine b_iconst hO dX9_hasRoad_0 ic_i_0 ?_
  refine b_istore_n hO dX9_hasRoad_1 rfl (by decide) (lv' := [(3, .int _), (0, .ref _), (1, .int _), (2, .int _)]) rfl ?_
  refine b_sub [1, 2, 3, 0] rfl ?_
  exact tfX9_hasRoad_2 n0 q0 hq0 hO _ _ _ _
theorem ctX9_hasRoad (n0 : Nat) (q0 : Nat) (hq0 : isK LX q0 9) (hI : Inj LX ad) (x1 : Int32) (x2 : Int32) (M : Mem) : CT l LX D cy ad yX9_hasRoad cX9_hasRoad 6 (some .boolean) 1 (QI LX D cy ad) [.ref (ad q0), .int x1, .int x2] M (fX9_hasRoad n0 q0 x1 x2 M) :=
  CT.mk LXok hI (by decide) (Nat.le_of_ble_eq_true rfl) (fun hO => tfX9_hasRoad n0 q0 hq0 hO x1 x2 M)
/-! X9_addThing -/
def fX9_addThing (n0 : Nat) (q0 : Nat) (x1 : Int32) (x2 : Int32) (x3 : Int32) (M : Mem) : Option (Mem) :=
  if (6 : Int32) ≤ (gI M (128 * q0 + 1)) then
    some M
  else
    if oob (gI M (128 * q0 + 1)) 6 then none else
    bnd (sA M (q0 + 1) (Int32.toNatClampNeg (gI M (128 * q0 + 1))) x1) fun M18 =>
    if oob (gI M18 (128 * q0 + 1)) 6 then none else
    bnd (sA M18 (q0 + 2) (Int32.toNatClampNeg (gI M18 (128 * q0 + 1))) x2) fun M28 =>
    if oob (gI M28 (128 * q0 + 1)) 6 then none else
    bnd (sA M28 (q0 + 3) (Int32.toNatClampNeg (gI M28 (128 * q0 + 1))) x3) fun M38 =>
    some (sI M38 (128 * q0 + 1) ((gI M38 (128 * q0 + 1)) + (1 : Int32)))
theorem tfX9_addThing (n0 : Nat) (q0 : Nat) (hq0 : isK LX q0 9) (hO : OKc p (rmL 1) s m args meth c LX D cy ad cX9_addThing RX9 4 1 none) (x1 : Int32) (x2 : Int32) (x3 : Int32) (M : Mem) : BL p l e (rmL 1) s m args below meth c LX D cy ad 4 (QV LX D cy ad) 0 [(0, .ref (ad q0)), (1, .int x1), (2, .int x2), (3, .int x3)] [] M (fX9_addThing n0 q0 x1 x2 x3 M) := by
  unfold fX9_addThing
  refine b_aload_n hO dX9_addThing_0 0 rfl rfl ?_
  refine b_get hO flX9_15 hq0 (v := .int (gI _ (128 * q0 + 1))) rfl dX9_addThing_1 ?_
  refine b_bipush hO dX9_addThing_4 ic_b_6 ?_
  refine b_icmp_ge hO dX9_addThing_6 (tgt := 49) (by decide) ?_ ?_
  · exact b_vret hO dX9_addThing_49
  · refine b_aload_n hO dX9_addThing_9 0 rfl rfl ?_
    refine b_get hO flX9_18 hq0 (v := .ref (ad (q0 + 1))) rfl dX9_addThing_10 ?_
    refine b_aload_n hO dX9_addThing_13 0 rfl rfl ?_
    refine b_get hO flX9_15 hq0 (v := .int (gI _ (128 * q0 + 1))) rfl dX9_addThing_14 ?_
    refine b_iload_n hO dX9_addThing_17 1 rfl rfl ?_
    refine b_iast hO (kt_9_1 hq0) (n := 6) (lt_9_1 hq0) dX9_addThing_18 ?_
    refine b_bnd (fun M18 => ?_)
    refine b_aload_n hO dX9_addThing_19 0 rfl rfl ?_
    refine b_get hO flX9_22 hq0 (v := .ref (ad (q0 + 2))) rfl dX9_addThing_20 ?_
    refine b_aload_n hO dX9_addThing_23 0 rfl rfl ?_
    refine b_get hO flX9_15 hq0 (v := .int (gI _ (128 * q0 + 1))) rfl dX9_addThing_24 ?_
    refine b_iload_n hO dX9_addThing_27 2 rfl rfl ?_
    refine b_iast hO (kt_9_2 hq0) (n := 6) (lt_9_2 hq0) dX9_addThing_28 ?_
    refine b_bnd (fun M28 => ?_)
    refine b_aload_n hO dX9_addThing_29 0 rfl rfl ?_
    refine b_get hO flX9_25 hq0 (v := .ref (ad (q0 + 3))) rfl dX9_addThing_30 ?_
    refine b_aload_n hO dX9_addThing_33 0 rfl rfl ?_
    refine b_get hO flX9_15 hq0 (v := .int (gI _ (128 * q0 + 1))) rfl dX9_addThing_34 ?_
    refine b_iload_n hO dX9_addThing_37 3 rfl rfl ?_
    refine b_iast hO (kt_9_3 hq0) (n := 6) (lt_9_3 hq0) dX9_addThing_38 ?_
    refine b_bnd (fun M38 => ?_)
    refine b_aload_n hO dX9_addThing_39 0 rfl rfl ?_
    refine b_dup hO dX9_addThing_40 rfl ?_
    refine b_get hO flX9_15 hq0 (v := .int (gI _ (128 * q0 + 1))) rfl dX9_addThing_41 ?_
    refine b_iconst hO dX9_addThing_44 ic_i_1 ?_
    refine b_iadd hO dX9_addThing_45 ?_
    refine b_putI hO flX9_15 hq0 rfl rfl rfl (id := (128 * q0 + 1)) rfl dX9_addThing_46 ?_
    exact b_vret hO dX9_addThing_49
theorem ctX9_addThing (n0 : Nat) (q0 : Nat) (hq0 : isK LX q0 9) (hI : Inj LX ad) (x1 : Int32) (x2 : Int32) (x3 : Int32) (M : Mem) : CT l LX D cy ad yX9_addThing cX9_addThing 4 none 1 (QV LX D cy ad) [.ref (ad q0), .int x1, .int x2, .int x3] M (fX9_addThing n0 q0 x1 x2 x3 M) :=
  CT.mk LXok hI (by decide) (Nat.le_of_ble_eq_true rfl) (fun hO => tfX9_addThing n0 q0 hq0 hO x1 x2 x3 M)
/-! X9_addCorner -/
def fX9_addCorner (n0 : Nat) (q0 : Nat) (x1 : Int32) (M : Mem) : Option (Mem) :=
  if (5 : Int32) ≤ (gI M (128 * q0 + 5)) then
    some M
  else
    if oob (gI M (128 * q0 + 5)) 5 then none else
    bnd (sA M (q0 + 4) (Int32.toNatClampNeg (gI M (128 * q0 + 5))) x1) fun M17 =>
    if oob (gI M17 (128 * q0 + 5)) 5 then none else
    bnd (sA M17 (q0 + 5) (Int32.toNatClampNeg (gI M17 (128 * q0 + 5))) (-1 : Int32)) fun M27 =>
    some (sI M27 (128 * q0 + 5) ((gI M27 (128 * q0 + 5)) + (1 : Int32)))
theorem tfX9_addCorner (n0 : Nat) (q0 : Nat) (hq0 : isK LX q0 9) (hO : OKc p (rmL 1) s m args meth c LX D cy ad cX9_addCorner RX9 2 1 none) (x1 : Int32) (M : Mem) : BL p l e (rmL 1) s m args below meth c LX D cy ad 2 (QV LX D cy ad) 0 [(0, .ref (ad q0)), (1, .int x1)] [] M (fX9_addCorner n0 q0 x1 M) := by
  unfold fX9_addCorner
  refine b_aload_n hO dX9_addCorner_0 0 rfl rfl ?_
  refine b_get hO flX9_28 hq0 (v := .int (gI _ (128 * q0 + 5))) rfl dX9_addCorner_1 ?_
  refine b_iconst hO dX9_addCorner_4 ic_i_5 ?_
  refine b_icmp_ge hO dX9_addCorner_5 (tgt := 38) (by decide) ?_ ?_
  · exact b_vret hO dX9_addCorner_38
  · refine b_aload_n hO dX9_addCorner_8 0 rfl rfl ?_
    refine b_get hO flX9_31 hq0 (v := .ref (ad (q0 + 4))) rfl dX9_addCorner_9 ?_
    refine b_aload_n hO dX9_addCorner_12 0 rfl rfl ?_
    refine b_get hO flX9_28 hq0 (v := .int (gI _ (128 * q0 + 5))) rfl dX9_addCorner_13 ?_
    refine b_iload_n hO dX9_addCorner_16 1 rfl rfl ?_
    refine b_iast hO (kt_9_4 hq0) (n := 5) (lt_9_4 hq0) dX9_addCorner_17 ?_
    refine b_bnd (fun M17 => ?_)
    refine b_aload_n hO dX9_addCorner_18 0 rfl rfl ?_
    refine b_get hO flX9_34 hq0 (v := .ref (ad (q0 + 5))) rfl dX9_addCorner_19 ?_
    refine b_aload_n hO dX9_addCorner_22 0 rfl rfl ?_
    refine b_get hO flX9_28 hq0 (v := .int (gI _ (128 * q0 + 5))) rfl dX9_addCorner_23 ?_
    refine b_iconst hO dX9_addCorner_26 ic_i_m1 ?_
    refine b_iast hO (kt_9_5 hq0) (n := 5) (lt_9_5 hq0) dX9_addCorner_27 ?_
    refine b_bnd (fun M27 => ?_)
    refine b_aload_n hO dX9_addCorner_28 0 rfl rfl ?_
    refine b_dup hO dX9_addCorner_29 rfl ?_
    refine b_get hO flX9_28 hq0 (v := .int (gI _ (128 * q0 + 5))) rfl dX9_addCorner_30 ?_
    refine b_iconst hO dX9_addCorner_33 ic_i_1 ?_
    refine b_iadd hO dX9_addCorner_34 ?_
    refine b_putI hO flX9_28 hq0 rfl rfl rfl (id := (128 * q0 + 5)) rfl dX9_addCorner_35 ?_
    exact b_vret hO dX9_addCorner_38
theorem ctX9_addCorner (n0 : Nat) (q0 : Nat) (hq0 : isK LX q0 9) (hI : Inj LX ad) (x1 : Int32) (M : Mem) : CT l LX D cy ad yX9_addCorner cX9_addCorner 2 none 1 (QV LX D cy ad) [.ref (ad q0), .int x1] M (fX9_addCorner n0 q0 x1 M) :=
  CT.mk LXok hI (by decide) (Nat.le_of_ble_eq_true rfl) (fun hO => tfX9_addCorner n0 q0 hq0 hO x1 M)
/-! X9_addRoad -/
def fX9_addRoad (n0 : Nat) (q0 : Nat) (x1 : Int32) (x2 : Int32) (x3 : Int32) (M : Mem) : Option (Mem) :=
  if (10 : Int32) ≤ (gI M (128 * q0 + 8)) then
    some M
  else
    if oob (gI M (128 * q0 + 8)) 10 then none else
    bnd (sA M (q0 + 6) (Int32.toNatClampNeg (gI M (128 * q0 + 8))) x1) fun M18 =>
    if oob (gI M18 (128 * q0 + 8)) 10 then none else
    bnd (sA M18 (q0 + 7) (Int32.toNatClampNeg (gI M18 (128 * q0 + 8))) x2) fun M28 =>
    if oob (gI M28 (128 * q0 + 8)) 10 then none else
    bnd (sA M28 (q0 + 8) (Int32.toNatClampNeg (gI M28 (128 * q0 + 8))) x3) fun M38 =>
    some (sI M38 (128 * q0 + 8) ((gI M38 (128 * q0 + 8)) + (1 : Int32)))
theorem tfX9_addRoad (n0 : Nat) (q0 : Nat) (hq0 : isK LX q0 9) (hO : OKc p (rmL 1) s m args meth c LX D cy ad cX9_addRoad RX9 4 1 none) (x1 : Int32) (x2 : Int32) (x3 : Int32) (M : Mem) : BL p l e (rmL 1) s m args below meth c LX D cy ad 4 (QV LX D cy ad) 0 [(0, .ref (ad q0)), (1, .int x1), (2, .int x2), (3, .int x3)] [] M (fX9_addRoad n0 q0 x1 x2 x3 M) := by
  unfold fX9_addRoad
  refine b_aload_n hO dX9_addRoad_0 0 rfl rfl ?_
  refine b_get hO flX9_37 hq0 (v := .int (gI _ (128 * q0 + 8))) rfl dX9_addRoad_1 ?_
  refine b_bipush hO dX9_addRoad_4 ic_b_10 ?_
  refine b_icmp_ge hO dX9_addRoad_6 (tgt := 49) (by decide) ?_ ?_
  · exact b_vret hO dX9_addRoad_49
  · refine b_aload_n hO dX9_addRoad_9 0 rfl rfl ?_
    refine b_get hO flX9_40 hq0 (v := .ref (ad (q0 + 6))) rfl dX9_addRoad_10 ?_
    refine b_aload_n hO dX9_addRoad_13 0 rfl rfl ?_
    refine b_get hO flX9_37 hq0 (v := .int (gI _ (128 * q0 + 8))) rfl dX9_addRoad_14 ?_
    refine b_iload_n hO dX9_addRoad_17 1 rfl rfl ?_
    refine b_iast hO (kt_9_6 hq0) (n := 10) (lt_9_6 hq0) dX9_addRoad_18 ?_
    refine b_bnd (fun M18 => ?_)
    refine b_aload_n hO dX9_addRoad_19 0 rfl rfl ?_
    refine b_get hO flX9_43 hq0 (v := .ref (ad (q0 + 7))) rfl dX9_addRoad_20 ?_
    refine b_aload_n hO dX9_addRoad_23 0 rfl rfl ?_
    refine b_get hO flX9_37 hq0 (v := .int (gI _ (128 * q0 + 8))) rfl dX9_addRoad_24 ?_
    refine b_iload_n hO dX9_addRoad_27 2 rfl rfl ?_
    refine b_iast hO (kt_9_7 hq0) (n := 10) (lt_9_7 hq0) dX9_addRoad_28 ?_
    refine b_bnd (fun M28 => ?_)
    refine b_aload_n hO dX9_addRoad_29 0 rfl rfl ?_
    refine b_get hO flX9_46 hq0 (v := .ref (ad (q0 + 8))) rfl dX9_addRoad_30 ?_
    refine b_aload_n hO dX9_addRoad_33 0 rfl rfl ?_
    refine b_get hO flX9_37 hq0 (v := .int (gI _ (128 * q0 + 8))) rfl dX9_addRoad_34 ?_
    refine b_iload_n hO dX9_addRoad_37 3 rfl rfl ?_
    refine b_iast hO (kt_9_8 hq0) (n := 10) (lt_9_8 hq0) dX9_addRoad_38 ?_
    refine b_bnd (fun M38 => ?_)
    refine b_aload_n hO dX9_addRoad_39 0 rfl rfl ?_
    refine b_dup hO dX9_addRoad_40 rfl ?_
    refine b_get hO flX9_37 hq0 (v := .int (gI _ (128 * q0 + 8))) rfl dX9_addRoad_41 ?_
    refine b_iconst hO dX9_addRoad_44 ic_i_1 ?_
    refine b_iadd hO dX9_addRoad_45 ?_
    refine b_putI hO flX9_37 hq0 rfl rfl rfl (id := (128 * q0 + 8)) rfl dX9_addRoad_46 ?_
    exact b_vret hO dX9_addRoad_49
theorem ctX9_addRoad (n0 : Nat) (q0 : Nat) (hq0 : isK LX q0 9) (hI : Inj LX ad) (x1 : Int32) (x2 : Int32) (x3 : Int32) (M : Mem) : CT l LX D cy ad yX9_addRoad cX9_addRoad 4 none 1 (QV LX D cy ad) [.ref (ad q0), .int x1, .int x2, .int x3] M (fX9_addRoad n0 q0 x1 x2 x3 M) :=
  CT.mk LXok hI (by decide) (Nat.le_of_ble_eq_true rfl) (fun hO => tfX9_addRoad n0 q0 hq0 hO x1 x2 x3 M)
/-! X9_addDoing -/
def fX9_addDoing (n0 : Nat) (q0 : Nat) (x1 : Int32) (x2 : Int32) (x3 : Int32) (M : Mem) : Option (Mem) :=
  if (6 : Int32) ≤ (gI M (128 * q0 + 12)) then
    some M
  else
    if oob (gI M (128 * q0 + 12)) 6 then none else
    bnd (sA M (q0 + 9) (Int32.toNatClampNeg (gI M (128 * q0 + 12))) x1) fun M18 =>
    if oob (gI M18 (128 * q0 + 12)) 6 then none else
    bnd (sA M18 (q0 + 10) (Int32.toNatClampNeg (gI M18 (128 * q0 + 12))) x2) fun M28 =>
    if oob (gI M28 (128 * q0 + 12)) 6 then none else
    bnd (sA M28 (q0 + 11) (Int32.toNatClampNeg (gI M28 (128 * q0 + 12))) x3) fun M38 =>
    some (sI M38 (128 * q0 + 12) ((gI M38 (128 * q0 + 12)) + (1 : Int32)))
theorem tfX9_addDoing (n0 : Nat) (q0 : Nat) (hq0 : isK LX q0 9) (hO : OKc p (rmL 1) s m args meth c LX D cy ad cX9_addDoing RX9 4 1 none) (x1 : Int32) (x2 : Int32) (x3 : Int32) (M : Mem) : BL p l e (rmL 1) s m args below meth c LX D cy ad 4 (QV LX D cy ad) 0 [(0, .ref (ad q0)), (1, .int x1), (2, .int x2), (3, .int x3)] [] M (fX9_addDoing n0 q0 x1 x2 x3 M) := by
  unfold fX9_addDoing
  refine b_aload_n hO dX9_addDoing_0 0 rfl rfl ?_
  refine b_get hO flX9_49 hq0 (v := .int (gI _ (128 * q0 + 12))) rfl dX9_addDoing_1 ?_
  refine b_bipush hO dX9_addDoing_4 ic_b_6 ?_
  refine b_icmp_ge hO dX9_addDoing_6 (tgt := 49) (by decide) ?_ ?_
  · exact b_vret hO dX9_addDoing_49
  · refine b_aload_n hO dX9_addDoing_9 0 rfl rfl ?_
    refine b_get hO flX9_52 hq0 (v := .ref (ad (q0 + 9))) rfl dX9_addDoing_10 ?_
    refine b_aload_n hO dX9_addDoing_13 0 rfl rfl ?_
    refine b_get hO flX9_49 hq0 (v := .int (gI _ (128 * q0 + 12))) rfl dX9_addDoing_14 ?_
    refine b_iload_n hO dX9_addDoing_17 1 rfl rfl ?_
    refine b_iast hO (kt_9_9 hq0) (n := 6) (lt_9_9 hq0) dX9_addDoing_18 ?_
    refine b_bnd (fun M18 => ?_)
    refine b_aload_n hO dX9_addDoing_19 0 rfl rfl ?_
    refine b_get hO flX9_55 hq0 (v := .ref (ad (q0 + 10))) rfl dX9_addDoing_20 ?_
    refine b_aload_n hO dX9_addDoing_23 0 rfl rfl ?_
    refine b_get hO flX9_49 hq0 (v := .int (gI _ (128 * q0 + 12))) rfl dX9_addDoing_24 ?_
    refine b_iload_n hO dX9_addDoing_27 2 rfl rfl ?_
    refine b_iast hO (kt_9_10 hq0) (n := 6) (lt_9_10 hq0) dX9_addDoing_28 ?_
    refine b_bnd (fun M28 => ?_)
    refine b_aload_n hO dX9_addDoing_29 0 rfl rfl ?_
    refine b_get hO flX9_58 hq0 (v := .ref (ad (q0 + 11))) rfl dX9_addDoing_30 ?_
    refine b_aload_n hO dX9_addDoing_33 0 rfl rfl ?_
    refine b_get hO flX9_49 hq0 (v := .int (gI _ (128 * q0 + 12))) rfl dX9_addDoing_34 ?_
    refine b_iload_n hO dX9_addDoing_37 3 rfl rfl ?_
    refine b_iast hO (kt_9_11 hq0) (n := 6) (lt_9_11 hq0) dX9_addDoing_38 ?_
    refine b_bnd (fun M38 => ?_)
    refine b_aload_n hO dX9_addDoing_39 0 rfl rfl ?_
    refine b_dup hO dX9_addDoing_40 rfl ?_
    refine b_get hO flX9_49 hq0 (v := .int (gI _ (128 * q0 + 12))) rfl dX9_addDoing_41 ?_
    refine b_iconst hO dX9_addDoing_44 ic_i_1 ?_
    refine b_iadd hO dX9_addDoing_45 ?_
    refine b_putI hO flX9_49 hq0 rfl rfl rfl (id := (128 * q0 + 12)) rfl dX9_addDoing_46 ?_
    exact b_vret hO dX9_addDoing_49
theorem ctX9_addDoing (n0 : Nat) (q0 : Nat) (hq0 : isK LX q0 9) (hI : Inj LX ad) (x1 : Int32) (x2 : Int32) (x3 : Int32) (M : Mem) : CT l LX D cy ad yX9_addDoing cX9_addDoing 4 none 1 (QV LX D cy ad) [.ref (ad q0), .int x1, .int x2, .int x3] M (fX9_addDoing n0 q0 x1 x2 x3 M) :=
  CT.mk LXok hI (by decide) (Nat.le_of_ble_eq_true rfl) (fun hO => tfX9_addDoing n0 q0 hq0 hO x1 x2 x3 M)
end
end
section
section
variable {p : Program} {l : Launch} {e : Env} {s : State} {m : MethodId} {args : Array Value} {below : List Frame} {meth : Method} {c : Code} {D : va_G} {cy : Nat → ClassId} {ad : Nat → Nat} {dd : Nat}

/-! X1_hold -/
def fX1_hold (n0 : Nat) (x1 : Int32) (x2 : Int32) (x3 : Int32) (x4 : Int32) (M : Mem) : Option (Mem) :=
  bnd (sI M 897 x1) fun M2 =>
  bnd (sI M2 898 x2) fun M7 =>
  bnd (sI M7 899 x3) fun M12 =>
  some (sI M12 900 x4)
theorem tfX1_hold (n0 : Nat) (hO : OKc p (rmL 1) s m args meth c LX D cy ad cX1_hold RX1 5 1 none) (x1 : Int32) (x2 : Int32) (x3 : Int32) (x4 : Int32) (M : Mem) : BL p l e (rmL 1) s m args below meth c LX D cy ad 5 (QV LX D cy ad) 0 [(0, .ref (ad 7)), (1, .int x1), (2, .int x2), (3, .int x3), (4, .int x4)] [] M (fX1_hold n0 x1 x2 x3 x4 M) := by
  unfold fX1_hold
  refine b_aload_n hO dX1_hold_0 0 rfl rfl ?_
  refine b_iload_n hO dX1_hold_1 1 rfl rfl ?_
  refine b_putI hO flX1_9 kLX_7 rfl rfl rfl (id := 897) rfl dX1_hold_2 ?_
  refine b_bnd (fun M2 => ?_)
  refine b_aload_n hO dX1_hold_5 0 rfl rfl ?_
  refine b_iload_n hO dX1_hold_6 2 rfl rfl ?_
  refine b_putI hO flX1_15 kLX_7 rfl rfl rfl (id := 898) rfl dX1_hold_7 ?_
  refine b_bnd (fun M7 => ?_)
  refine b_aload_n hO dX1_hold_10 0 rfl rfl ?_
  refine b_iload_n hO dX1_hold_11 3 rfl rfl ?_
  refine b_putI hO flX1_18 kLX_7 rfl rfl rfl (id := 899) rfl dX1_hold_12 ?_
  refine b_bnd (fun M12 => ?_)
  refine b_aload_n hO dX1_hold_15 0 rfl rfl ?_
  refine b_iload hO dX1_hold_16 4 rfl ?_
  refine b_putI hO flX1_21 kLX_7 rfl rfl rfl (id := 900) rfl dX1_hold_18 ?_
  exact b_vret hO dX1_hold_21
theorem ctX1_hold (n0 : Nat) (hI : Inj LX ad) (x1 : Int32) (x2 : Int32) (x3 : Int32) (x4 : Int32) (M : Mem) : CT l LX D cy ad yX1_hold cX1_hold 5 none 1 (QV LX D cy ad) [.ref (ad 7), .int x1, .int x2, .int x3, .int x4] M (fX1_hold n0 x1 x2 x3 x4 M) :=
  CT.mk LXok hI (by decide) (Nat.le_of_ble_eq_true rfl) (fun hO => tfX1_hold n0 hO x1 x2 x3 x4 M)
/-! X1_join -/
def fX1_join_332 (n0 : Nat) (x3 : Int32) (y6 : Int64) (M : Mem) : Option (Mem) :=
  if oob x3 64 then none else
  some (sA M 9 (Int32.toNatClampNeg x3) ((lmax (-1000000 : Int64) (lmin (1000000 : Int64) y6))).toInt32)
def fX1_join_181 (n0 : Nat) (x3 : Int32) (v0 : Int64) (M : Mem) : Option (Mem) :=
  fX1_join_332 n0 x3 v0 M
def fX1_join_203 (n0 : Nat) (x3 : Int32) (v0 : Int64) (M : Mem) : Option (Mem) :=
  fX1_join_332 n0 x3 v0 M
def fX1_join_254 (n0 : Nat) (x3 : Int32) (v0 : Int64) (M : Mem) : Option (Mem) :=
  fX1_join_332 n0 x3 v0 M
def fX1_join_271 (n0 : Nat) (x3 : Int32) (v0 : Int64) (M : Mem) : Option (Mem) :=
  fX1_join_332 n0 x3 v0 M
def fX1_join_288 (n0 : Nat) (x3 : Int32) (v0 : Int64) (M : Mem) : Option (Mem) :=
  fX1_join_332 n0 x3 v0 M
def fX1_join_305 (n0 : Nat) (x3 : Int32) (v0 : Int64) (M : Mem) : Option (Mem) :=
  fX1_join_332 n0 x3 v0 M
def fX1_join_11 (n0 : Nat) (x1 : Int32) (u0 : Int32) (M : Mem) : Option (Mem) :=
  if u0 ≤ (gI M 903) then
    bnd (sI M 903 ((gI M 903) - (u0 - (1 : Int32)))) fun M30 =>
    bnd ((gI M30 903) - (1 : Int32)) fun x3_39 =>
    if oob x3_39 64 then none else
    bnd (gA M30 9 (Int32.toNatClampNeg x3_39)) fun x4_46 =>
    if oob (x3_39 + (1 : Int32)) 64 then none else
    bnd (gA M30 9 (Int32.toNatClampNeg (x3_39 + (1 : Int32)))) fun x5_56 =>
    if x1 = (-19 : Int32) then
      bnd ((x4_46 ||| x5_56)).toInt64 fun y6_327 =>
      fX1_join_332 n0 x3_39 y6_327 M30
    else
    if x1 = (-18 : Int32) then
      bnd ((x4_46 &&& x5_56)).toInt64 fun y6_316 =>
      fX1_join_332 n0 x3_39 y6_316 M30
    else
    if x1 = (-17 : Int32) then
      if x4_46 = x5_56 then
        fX1_join_305 n0 x3_39 (1 : Int64) M30
      else
        fX1_join_305 n0 x3_39 (0 : Int64) M30
    else
    if x1 = (-16 : Int32) then
      if x4_46 ≤ x5_56 then
        fX1_join_288 n0 x3_39 (0 : Int64) M30
      else
        fX1_join_288 n0 x3_39 (1 : Int64) M30
    else
    if x1 = (-15 : Int32) then
      if x5_56 ≤ x4_46 then
        fX1_join_271 n0 x3_39 (0 : Int64) M30
      else
        fX1_join_271 n0 x3_39 (1 : Int64) M30
    else
    if x1 = (-14 : Int32) then
      if x4_46 = 0 then
        if oob (x3_39 + (2 : Int32)) 64 then none else
        fX1_join_254 n0 x3_39 ((gA M30 9 (Int32.toNatClampNeg (x3_39 + (2 : Int32))))).toInt64 M30
      else
        fX1_join_254 n0 x3_39 (x5_56).toInt64 M30
    else
    if x1 = (-13 : Int32) then
      bnd ((imax x4_46 x5_56)).toInt64 fun y6_229 =>
      fX1_join_332 n0 x3_39 y6_229 M30
    else
    if x1 = (-12 : Int32) then
      bnd ((imin x4_46 x5_56)).toInt64 fun y6_216 =>
      fX1_join_332 n0 x3_39 y6_216 M30
    else
    if x1 = (-11 : Int32) then
      if x5_56 = 0 then
        fX1_join_203 n0 x3_39 (0 : Int64) M30
      else
        (fJ9_floorMod_7cf53 n0 x4_46 x5_56 M30).bind fun z199 =>
        fX1_join_203 n0 x3_39 (z199.1).toInt64 z199.2
    else
    if x1 = (-10 : Int32) then
      if x5_56 = 0 then
        fX1_join_181 n0 x3_39 (0 : Int64) M30
      else
        (fJ9_floorDiv_7cf53 n0 x4_46 x5_56 M30).bind fun z177 =>
        fX1_join_181 n0 x3_39 (z177.1).toInt64 z177.2
    else
    if x1 = (-9 : Int32) then
      bnd ((x4_46).toInt64 * (x5_56).toInt64) fun y6_159 =>
      fX1_join_332 n0 x3_39 y6_159 M30
    else
    if x1 = (-8 : Int32) then
      bnd ((x4_46).toInt64 - (x5_56).toInt64) fun y6_147 =>
      fX1_join_332 n0 x3_39 y6_147 M30
    else
    if x1 = (-7 : Int32) then
      bnd ((x4_46).toInt64 + (x5_56).toInt64) fun y6_135 =>
      fX1_join_332 n0 x3_39 y6_135 M30
    else
    fX1_join_332 n0 x3_39 (0 : Int64) M30
  else
    some M
def fX1_join (n0 : Nat) (x1 : Int32) (M : Mem) : Option (Mem) :=
  if x1 = (-14 : Int32) then
    fX1_join_11 n0 x1 (3 : Int32) M
  else
    fX1_join_11 n0 x1 (2 : Int32) M
theorem tfX1_join_332 (n0 : Nat) (hO : OKc p (rmL 2) s m args meth c LX D cy ad cX1_join RX1 8 2 none) (x3 : Int32) (y6 : Int64) (M : Mem) : BL p l e (rmL 2) s m args below meth c LX D cy ad 8 (QV LX D cy ad) 332 [(0, .ref (ad 7)), (3, .int x3), (6, .long y6)] [] M (fX1_join_332 n0 x3 y6 M) := by
  unfold fX1_join_332
  refine b_aload_n hO dX1_join_332 0 rfl rfl ?_
  refine b_get hO flX1_28 kLX_7 (v := .ref (ad 9)) rfl dX1_join_333 ?_
  refine b_iload_n hO dX1_join_336 1 rfl rfl ?_
  refine b_ldc2 hO w596 dX1_join_337 ?_
  refine b_ldc2 hO w597 dX1_join_340 ?_
  refine b_lload hO dX1_join_343 2 rfl ?_
  refine b_mmin_long hO w598 w599 w136 wm600 (by first | decide | omega) (Nat.le_of_ble_eq_true rfl) dX1_join_345 ?_
  refine b_mmax_long hO w601 w602 w136 wm603 (by first | decide | omega) (Nat.le_of_ble_eq_true rfl) dX1_join_348 ?_
  refine b_l2i hO dX1_join_351 ?_
  refine b_iast hO kLX_9 (n := 64) rfl dX1_join_352 ?_
  exact b_vret hO dX1_join_353
theorem tfX1_join_181 (n0 : Nat) (hO : OKc p (rmL 2) s m args meth c LX D cy ad cX1_join RX1 8 2 none) (x3 : Int32) (v0 : Int64) (M : Mem) : BL p l e (rmL 2) s m args below meth c LX D cy ad 8 (QV LX D cy ad) 181 [(0, .ref (ad 7)), (3, .int x3)] [.long v0] M (fX1_join_181 n0 x3 v0 M) := by
  unfold fX1_join_181
  refine b_lstore hO dX1_join_181 (by decide) (lv' := [(6, .long _), (0, .ref _), (3, .int _)]) rfl ?_
  refine b_goto hO dX1_join_183 (tgt := 332) (by decide) ?_
  refine b_sub [1, 2, 0] rfl ?_
  exact tfX1_join_332 n0 hO _ _ _
theorem tfX1_join_203 (n0 : Nat) (hO : OKc p (rmL 2) s m args meth c LX D cy ad cX1_join RX1 8 2 none) (x3 : Int32) (v0 : Int64) (M : Mem) : BL p l e (rmL 2) s m args below meth c LX D cy ad 8 (QV LX D cy ad) 203 [(0, .ref (ad 7)), (3, .int x3)] [.long v0] M (fX1_join_203 n0 x3 v0 M) := by
  unfold fX1_join_203
  refine b_lstore hO dX1_join_203 (by decide) (lv' := [(6, .long _), (0, .ref _), (3, .int _)]) rfl ?_
  refine b_goto hO dX1_join_205 (tgt := 332) (by decide) ?_
  refine b_sub [1, 2, 0] rfl ?_
  exact tfX1_join_332 n0 hO _ _ _
theorem tfX1_join_254 (n0 : Nat) (hO : OKc p (rmL 2) s m args meth c LX D cy ad cX1_join RX1 8 2 none) (x3 : Int32) (v0 : Int64) (M : Mem) : BL p l e (rmL 2) s m args below meth c LX D cy ad 8 (QV LX D cy ad) 254 [(0, .ref (ad 7)), (3, .int x3)] [.long v0] M (fX1_join_254 n0 x3 v0 M) := by
  unfold fX1_join_254
  refine b_lstore hO dX1_join_254 (by decide) (lv' := [(6, .long _), (0, .ref _), (3, .int _)]) rfl ?_
  refine b_goto hO dX1_join_256 (tgt := 332) (by decide) ?_
  refine b_sub [1, 2, 0] rfl ?_
  exact tfX1_join_332 n0 hO _ _ _
theorem tfX1_join_271 (n0 : Nat) (hO : OKc p (rmL 2) s m args meth c LX D cy ad cX1_join RX1 8 2 none) (x3 : Int32) (v0 : Int64) (M : Mem) : BL p l e (rmL 2) s m args below meth c LX D cy ad 8 (QV LX D cy ad) 271 [(0, .ref (ad 7)), (3, .int x3)] [.long v0] M (fX1_join_271 n0 x3 v0 M) := by
  unfold fX1_join_271
  refine b_lstore hO dX1_join_271 (by decide) (lv' := [(6, .long _), (0, .ref _), (3, .int _)]) rfl ?_
  refine b_goto hO dX1_join_273 (tgt := 332) (by decide) ?_
  refine b_sub [1, 2, 0] rfl ?_
  exact tfX1_join_332 n0 hO _ _ _
theorem tfX1_join_288 (n0 : Nat) (hO : OKc p (rmL 2) s m args meth c LX D cy ad cX1_join RX1 8 2 none) (x3 : Int32) (v0 : Int64) (M : Mem) : BL p l e (rmL 2) s m args below meth c LX D cy ad 8 (QV LX D cy ad) 288 [(0, .ref (ad 7)), (3, .int x3)] [.long v0] M (fX1_join_288 n0 x3 v0 M) := by
  unfold fX1_join_288
  refine b_lstore hO dX1_join_288 (by decide) (lv' := [(6, .long _), (0, .ref _), (3, .int _)]) rfl ?_
  refine b_goto hO dX1_join_290 (tgt := 332) (by decide) ?_
  refine b_sub [1, 2, 0] rfl ?_
  exact tfX1_join_332 n0 hO _ _ _
theorem tfX1_join_305 (n0 : Nat) (hO : OKc p (rmL 2) s m args meth c LX D cy ad cX1_join RX1 8 2 none) (x3 : Int32) (v0 : Int64) (M : Mem) : BL p l e (rmL 2) s m args below meth c LX D cy ad 8 (QV LX D cy ad) 305 [(0, .ref (ad 7)), (3, .int x3)] [.long v0] M (fX1_join_305 n0 x3 v0 M) := by
  unfold fX1_join_305
  refine b_lstore hO dX1_join_305 (by decide) (lv' := [(6, .long _), (0, .ref _), (3, .int _)]) rfl ?_
  refine b_goto hO dX1_join_307 (tgt := 332) (by decide) ?_
  refine b_sub [1, 2, 0] rfl ?_
  exact tfX1_join_332 n0 hO _ _ _
theorem tfX1_join_11 (n0 : Nat) (hO : OKc p (rmL 2) s m args meth c LX D cy ad cX1_join RX1 8 2 none) (x1 : Int32) (u0 : Int32) (M : Mem) : BL p l e (rmL 2) s m args below meth c LX D cy ad 8 (QV LX D cy ad) 11 [(0, .ref (ad 7)), (1, .int x1)] [.int u0] M (fX1_join_11 n0 x1 u0 M) := by
  unfold fX1_join_11
  refine b_istore_n hO dX1_join_11 rfl (by decide) (lv' := [(2, .int _), (0, .ref _), (1, .int _)]) rfl ?_
  refine b_aload_n hO dX1_join_12 1 rfl rfl ?_
  refine b_get hO flX1_31 kLX_7 (v := .int (gI _ 903)) rfl dX1_join_13 ?_
  refine b_iload_n hO dX1_join_16 0 rfl rfl ?_
  refine b_icmp_ge hO dX1_join_17 (tgt := 21) (by decide) ?_ ?_
  · refine b_aload_n hO dX1_join_21 1 rfl rfl ?_
    refine b_dup hO dX1_join_22 rfl ?_
    refine b_get hO flX1_31 kLX_7 (v := .int (gI _ 903)) rfl dX1_join_23 ?_
    refine b_iload_n hO dX1_join_26 0 rfl rfl ?_
    refine b_iconst hO dX1_join_27 ic_i_1 ?_
    refine b_isub hO dX1_join_28 ?_
    refine b_isub hO dX1_join_29 ?_
    refine b_putI hO flX1_31 kLX_7 rfl rfl rfl (id := 903) rfl dX1_join_30 ?_
    refine b_bnd (fun M30 => ?_)
    refine b_aload_n hO dX1_join_33 1 rfl rfl ?_
    refine b_get hO flX1_31 kLX_7 (v := .int (gI _ 903)) rfl dX1_join_34 ?_
    refine b_iconst hO dX1_join_37 ic_i_1 ?_
    refine b_isub hO dX1_join_38 ?_
    refine b_topI (fun x3_39 => ?_)
    refine b_istore_n hO dX1_join_39 rfl (by decide) (lv' := [(3, .int _), (2, .int _), (0, .ref _), (1, .int _)]) rfl ?_
    refine b_aload_n hO dX1_join_40 2 rfl rfl ?_
    refine b_get hO flX1_28 kLX_7 (v := .ref (ad 9)) rfl dX1_join_41 ?_
    refine b_iload_n hO dX1_join_44 0 rfl rfl ?_
    refine b_iald hO kLX_9 (n := 64) rfl dX1_join_45 ?_
    refine b_topI (fun x4_46 => ?_)
    refine b_istore hO dX1_join_46 (by decide) (lv' := [(4, .int _), (3, .int _), (2, .int _), (0, .ref _), (1, .int _)]) rfl ?_
    refine b_aload_n hO dX1_join_48 3 rfl rfl ?_
    refine b_get hO flX1_28 kLX_7 (v := .ref (ad 9)) rfl dX1_join_49 ?_
    refine b_iload_n hO dX1_join_52 1 rfl rfl ?_
    refine b_iconst hO dX1_join_53 ic_i_1 ?_
    refine b_iadd hO dX1_join_54 ?_
    refine b_iald hO kLX_9 (n := 64) rfl dX1_join_55 ?_
    refine b_topI (fun x5_56 => ?_)
    refine b_istore hO dX1_join_56 (by decide) (lv' := [(5, .int _), (4, .int _), (3, .int _), (2, .int _), (0, .ref _), (1, .int _)]) rfl ?_
    refine b_lconst hO dX1_join_58 (v := 0) rfl ?_
    refine b_lstore hO dX1_join_59 (by decide) (lv' := [(6, .long _), (5, .int _), (4, .int _), (3, .int _), (2, .int _), (0, .ref _), (1, .int _)]) rfl ?_
    refine b_iload_n hO dX1_join_61 6 rfl rfl ?_
    refine b_tabIn hO dX1_join_62 (v := (-19 : Int32)) (z := -19) (tgt := 321) (by decide) (by decide) (by decide) rfl (by decide) ?_ (fun hn0 => ?_)
    · refine b_iload hO dX1_join_321 2 rfl ?_
      refine b_iload hO dX1_join_323 1 rfl ?_
      refine b_ior hO dX1_join_325 ?_
      refine b_i2l hO dX1_join_326 ?_
      refine b_topL (fun y6_327 => ?_)
      refine b_lstore hO dX1_join_327 (by decide) (lv' := [(6, .long _), (5, .int _), (4, .int _), (3, .int _), (2, .int _), (0, .ref _), (1, .int _)]) rfl ?_
      refine b_goto hO dX1_join_329 (tgt := 332) (by decide) ?_
      refine b_sub [5, 3, 0] rfl ?_
      exact tfX1_join_332 n0 hO _ _ _
    refine b_tabIn hO dX1_join_62 (v := (-18 : Int32)) (z := -18) (tgt := 310) (by decide) (by decide) (by decide) rfl (by decide) ?_ (fun hn1 => ?_)
    · refine b_iload hO dX1_join_310 2 rfl ?_
      refine b_iload hO dX1_join_312 1 rfl ?_
      refine b_iand hO dX1_join_314 ?_
      refine b_i2l hO dX1_join_315 ?_
      refine b_topL (fun y6_316 => ?_)
      refine b_lstore hO dX1_join_316 (by decide) (lv' := [(6, .long _), (5, .int _), (4, .int _), (3, .int _), (2, .int _), (0, .ref _), (1, .int _)]) rfl ?_
      refine b_goto hO dX1_join_318 (tgt := 332) (by decide) ?_
      refine b_sub [5, 3, 0] rfl ?_
      exact tfX1_join_332 n0 hO _ _ _
    refine b_tabIn hO dX1_join_62 (v := (-17 : Int32)) (z := -17) (tgt := 293) (by decide) (by decide) (by decide) rfl (by decide) ?_ (fun hn2 => ?_)
    · refine b_iload hO dX1_join_293 2 rfl ?_
      refine b_iload hO dX1_join_295 1 rfl ?_
      refine b_icmp_ne hO dX1_join_297 (tgt := 304) (by decide) ?_ ?_
      · refine b_lconst hO dX1_join_304 (v := 0) rfl ?_
        refine b_sub [5, 3] rfl ?_
        exact tfX1_join_305 n0 hO _ _ _
      · refine b_lconst hO dX1_join_300 (v := 1) rfl ?_
        refine b_goto hO dX1_join_301 (tgt := 305) (by decide) ?_
        refine b_sub [5, 3] rfl ?_
        exact tfX1_join_305 n0 hO _ _ _
    refine b_tabIn hO dX1_join_62 (v := (-16 : Int32)) (z := -16) (tgt := 276) (by decide) (by decide) (by decide) rfl (by decide) ?_ (fun hn3 => ?_)
    · refine b_iload hO dX1_join_276 2 rfl ?_
      refine b_iload hO dX1_join_278 1 rfl ?_
      refine b_icmp_le hO dX1_join_280 (tgt := 287) (by decide) ?_ ?_
      · refine b_lconst hO dX1_join_287 (v := 0) rfl ?_
        refine b_sub [5, 3] rfl ?_
        exact tfX1_join_288 n0 hO _ _ _
      · refine b_lconst hO dX1_join_283 (v := 1) rfl ?_
        refine b_goto hO dX1_join_284 (tgt := 288) (by decide) ?_
        refine b_sub [5, 3] rfl ?_
        exact tfX1_join_288 n0 hO _ _ _
    refine b_tabIn hO dX1_join_62 (v := (-15 : Int32)) (z := -15) (tgt := 259) (by decide) (by decide) (by decide) rfl (by decide) ?_ (fun hn4 => ?_)
    · refine b_iload hO dX1_join_259 2 rfl ?_
      refine b_iload hO dX1_join_261 1 rfl ?_
      refine b_icmp_ge hO dX1_join_263 (tgt := 270) (by decide) ?_ ?_
      · refine b_lconst hO dX1_join_270 (v := 0) rfl ?_
        refine b_sub [5, 3] rfl ?_
        exact tfX1_join_271 n0 hO _ _ _
      · refine b_lconst hO dX1_join_266 (v := 1) rfl ?_
        refine b_goto hO dX1_join_267 (tgt := 271) (by decide) ?_
        refine b_sub [5, 3] rfl ?_
        exact tfX1_join_271 n0 hO _ _ _
    refine b_tabIn hO dX1_join_62 (v := (-14 : Int32)) (z := -14) (tgt := 234) (by decide) (by decide) (by decide) rfl (by decide) ?_ (fun hn5 => ?_)
    · refine b_iload hO dX1_join_234 2 rfl ?_
      refine b_if_eq hO dX1_join_236 (tgt := 245) (by decide) ?_ ?_
      · refine b_aload_n hO dX1_join_245 5 rfl rfl ?_
        refine b_get hO flX1_28 kLX_7 (v := .ref (ad 9)) rfl dX1_join_246 ?_
        refine b_iload_n hO dX1_join_249 3 rfl rfl ?_
        refine b_iconst hO dX1_join_250 ic_i_2 ?_
        refine b_iadd hO dX1_join_251 ?_
        refine b_iald hO kLX_9 (n := 64) rfl dX1_join_252 ?_
        refine b_i2l hO dX1_join_253 ?_
        refine b_sub [5, 3] rfl ?_
        exact tfX1_join_254 n0 hO _ _ _
      · refine b_iload hO dX1_join_239 1 rfl ?_
        refine b_i2l hO dX1_join_241 ?_
        refine b_goto hO dX1_join_242 (tgt := 254) (by decide) ?_
        refine b_sub [5, 3] rfl ?_
        exact tfX1_join_254 n0 hO _ _ _
    refine b_tabIn hO dX1_join_62 (v := (-13 : Int32)) (z := -13) (tgt := 221) (by decide) (by decide) (by decide) rfl (by decide) ?_ (fun hn6 => ?_)
    · refine b_iload hO dX1_join_221 2 rfl ?_
      refine b_iload hO dX1_join_223 1 rfl ?_
      refine b_mmax hO w593 w594 w136 wm595 (by first | decide | omega) (Nat.le_of_ble_eq_true rfl) dX1_join_225 ?_
      refine b_i2l hO dX1_join_228 ?_
      refine b_topL (fun y6_229 => ?_)
      refine b_lstore hO dX1_join_229 (by decide) (lv' := [(6, .long _), (5, .int _), (4, .int _), (3, .int _), (2, .int _), (0, .ref _), (1, .int _)]) rfl ?_
      refine b_goto hO dX1_join_231 (tgt := 332) (by decide) ?_
      refine b_sub [5, 3, 0] rfl ?_
      exact tfX1_join_332 n0 hO _ _ _
    refine b_tabIn hO dX1_join_62 (v := (-12 : Int32)) (z := -12) (tgt := 208) (by decide) (by decide) (by decide) rfl (by decide) ?_ (fun hn7 => ?_)
    · refine b_iload hO dX1_join_208 2 rfl ?_
      refine b_iload hO dX1_join_210 1 rfl ?_
      refine b_mmin hO w590 w591 w136 wm592 (by first | decide | omega) (Nat.le_of_ble_eq_true rfl) dX1_join_212 ?_
      refine b_i2l hO dX1_join_215 ?_
      refine b_topL (fun y6_216 => ?_)
      refine b_lstore hO dX1_join_216 (by decide) (lv' := [(6, .long _), (5, .int _), (4, .int _), (3, .int _), (2, .int _), (0, .ref _), (1, .int _)]) rfl ?_
      refine b_goto hO dX1_join_218 (tgt := 332) (by decide) ?_
      refine b_sub [5, 3, 0] rfl ?_
      exact tfX1_join_332 n0 hO _ _ _
    refine b_tabIn hO dX1_join_62 (v := (-11 : Int32)) (z := -11) (tgt := 186) (by decide) (by decide) (by decide) rfl (by decide) ?_ (fun hn8 => ?_)
    · refine b_iload hO dX1_join_186 1 rfl ?_
      refine b_if_ne hO dX1_join_188 (tgt := 195) (by decide) ?_ ?_
      · refine b_iload hO dX1_join_195 2 rfl ?_
        refine b_iload hO dX1_join_197 1 rfl ?_
        refine b_callSI hO mdJ9_floorMod_7cf53 w588 w587 (As := [.int _, .int _]) (st := []) (ctJ9_floorMod_7cf53 n0 hO.2.2.2.2.2.2.1 _ _ _) (Nat.le_of_ble_eq_true rfl) rfl rfl (Nat.le_of_ble_eq_true rfl) dX1_join_199 (fun z199 => ?_)
        refine b_i2l hO dX1_join_202 ?_
        refine b_sub [5, 3] rfl ?_
        exact tfX1_join_203 n0 hO _ _ _
      · refine b_lconst hO dX1_join_191 (v := 0) rfl ?_
        refine b_goto hO dX1_join_192 (tgt := 203) (by decide) ?_
        refine b_sub [5, 3] rfl ?_
        exact tfX1_join_203 n0 hO _ _ _
    refine b_tabIn hO dX1_join_62 (v := (-10 : Int32)) (z := -10) (tgt := 164) (by decide) (by decide) (by decide) rfl (by decide) ?_ (fun hn9 => ?_)
    · refine b_iload hO dX1_join_164 1 rfl ?_
      refine b_if_ne hO dX1_join_166 (tgt := 173) (by decide) ?_ ?_
      · refine b_iload hO dX1_join_173 2 rfl ?_
        refine b_iload hO dX1_join_175 1 rfl ?_
        refine b_callSI hO mdJ9_floorDiv_7cf53 w585 w584 (As := [.int _, .int _]) (st := []) (ctJ9_floorDiv_7cf53 n0 hO.2.2.2.2.2.2.1 _ _ _) (Nat.le_of_ble_eq_true rfl) rfl rfl (Nat.le_of_ble_eq_true rfl) dX1_join_177 (fun z177 => ?_)
        refine b_i2l hO dX1_join_180 ?_
        refine b_sub [5, 3] rfl ?_
        exact tfX1_join_181 n0 hO _ _ _
      · refine b_lconst hO dX1_join_169 (v := 0) rfl ?_
        refine b_goto hO dX1_join_170 (tgt := 181) (by decide) ?_
        refine b_sub [5, 3] rfl ?_
        exact tfX1_join_181 n0 hO _ _ _
    refine b_tabIn hO dX1_join_62 (v := (-9 : Int32)) (z := -9) (tgt := 152) (by decide) (by decide) (by decide) rfl (by decide) ?_ (fun hn10 => ?_)
    · refine b_iload hO dX1_join_152 2 rfl ?_
      refine b_i2l hO dX1_join_154 ?_
      refine b_iload hO dX1_join_155 1 rfl ?_
      refine b_i2l hO dX1_join_157 ?_
      refine b_lmul hO dX1_join_158 ?_
      refine b_topL (fun y6_159 => ?_)
      refine b_lstore hO dX1_join_159 (by decide) (lv' := [(6, .long _), (5, .int _), (4, .int _), (3, .int _), (2, .int _), (0, .ref _), (1, .int _)]) rfl ?_
      refine b_goto hO dX1_join_161 (tgt := 332) (by decide) ?_
      refine b_sub [5, 3, 0] rfl ?_
      exact tfX1_join_332 n0 hO _ _ _
    refine b_tabIn hO dX1_join_62 (v := (-8 : Int32)) (z := -8) (tgt := 140) (by decide) (by decide) (by decide) rfl (by decide) ?_ (fun hn11 => ?_)
    · refine b_iload hO dX1_join_140 2 rfl ?_
      refine b_i2l hO dX1_join_142 ?_
      refine b_iload hO dX1_join_143 1 rfl ?_
      refine b_i2l hO dX1_join_145 ?_
      refine b_lsub hO dX1_join_146 ?_
      refine b_topL (fun y6_147 => ?_)
      refine b_lstore hO dX1_join_147 (by decide) (lv' := [(6, .long _), (5, .int _), (4, .int _), (3, .int _), (2, .int _), (0, .ref _), (1, .int _)]) rfl ?_
      refine b_goto hO dX1_join_149 (tgt := 332) (by decide) ?_
      refine b_sub [5, 3, 0] rfl ?_
      exact tfX1_join_332 n0 hO _ _ _
    refine b_tabIn hO dX1_join_62 (v := (-7 : Int32)) (z := -7) (tgt := 128) (by decide) (by decide) (by decide) rfl (by decide) ?_ (fun hn12 => ?_)
    · refine b_iload hO dX1_join_128 2 rfl ?_
      refine b_i2l hO dX1_join_130 ?_
      refine b_iload hO dX1_join_131 1 rfl ?_
      refine b_i2l hO dX1_join_133 ?_
      refine b_ladd hO dX1_join_134 ?_
      refine b_topL (fun y6_135 => ?_)
      refine b_lstore hO dX1_join_135 (by decide) (lv' := [(6, .long _), (5, .int _), (4, .int _), (3, .int _), (2, .int _), (0, .ref _), (1, .int _)]) rfl ?_
      refine b_goto hO dX1_join_137 (tgt := 332) (by decide) ?_
      refine b_sub [5, 3, 0] rfl ?_
      exact tfX1_join_332 n0 hO _ _ _
    refine b_tabOut hO dX1_join_62 (tgt := 332) (by omega) (by decide) ?_
    refine b_sub [5, 3, 0] rfl ?_
    exact tfX1_join_332 n0 hO _ _ _
  · exact b_vret hO dX1_join_20
theorem tfX1_join (n0 : Nat) (hO : OKc p (rmL 2) s m args meth c LX D cy ad cX1_join RX1 8 2 none) (x1 : Int32) (M : Mem) : BL p l e (rmL 2) s m args below meth c LX D cy ad 8 (QV LX D cy ad) 0 [(0, .ref (ad 7)), (1, .int x1)] [] M (fX1_join n0 x1 M) := by
  unfold fX1_join
  refine b_iload_n hO dX1_join_0 1 rfl rfl ?_
  refine b_bipush hO dX1_join_1 ic_b_m14 ?_
  refine b_icmp_ne hO dX1_join_3 (tgt := 10) (by decide) ?_ ?_
  · refine b_iconst hO dX1_join_10 ic_i_2 ?_
    exact tfX1_join_11 n0 hO _ _ _
  · refine b_iconst hO dX1_join_6 ic_i_3 ?_
    refine b_goto hO dX1_join_7 (tgt := 11) (by decide) ?_
    exact tfX1_join_11 n0 hO _ _ _
theorem ctX1_join (n0 : Nat) (hI : Inj LX ad) (x1 : Int32) (M : Mem) : CT l LX D cy ad yX1_join cX1_join 8 none 2 (QV LX D cy ad) [.ref (ad 7), .int x1] M (fX1_join n0 x1 M) :=
  CT.mk LXok hI (by decide) (Nat.le_of_ble_eq_true rfl) (fun hO => tfX1_join n0 hO x1 M)
/-! X1_valueOf -/
def fX1_valueOf_203 (n0 : Nat) (q1 : Nat) (k124 : Int32 → Mem → Option (Int32 × Mem)) (x3 : Int32) (M : Mem) : Option (Int32 × Mem) :=
  k124 (x3 + (1 : Int32)) M
def fX1_valueOf_192 (n0 : Nat) (q1 : Nat) (k124 : Int32 → Mem → Option (Int32 × Mem)) (x3 : Int32) (u1 : Int32) (u2 : Int32) (M : Mem) : Option (Int32 × Mem) :=
  if oob u1 64 then none else
  bnd (sA M 9 (Int32.toNatClampNeg u1) u2) fun M192 =>
  fX1_valueOf_203 n0 q1 k124 x3 (sI M192 903 ((gI M192 903) + (1 : Int32)))
def bX1_valueOf_124 (n0 : Nat) (q1 : Nat) (k124 : Int32 → Mem → Option (Int32 × Mem)) (x3 : Int32) (M : Mem) : Option (Int32 × Mem) :=
  if (gI M (128 * q1 + 1)) ≤ x3 then
    if (gI M 903) ≤ 0 then
      some ((0 : Int32), M)
    else
      if oob (0 : Int32) 64 then none else
      some ((gA M 9 (Int32.toNatClampNeg (0 : Int32))), M)
  else
    if oob x3 1600 then none else
    bnd (gA M (q1 + 1) (Int32.toNatClampNeg x3)) fun x4_138 =>
    if (-6 : Int32) ≤ x4_138 then
      if (64 : Int32) ≤ (gI M 903) then
        fX1_valueOf_203 n0 q1 k124 x3 M
      else
        if x4_138 < 0 then
          if oob ((-1 : Int32) - x4_138) 6 then none else
          fX1_valueOf_192 n0 q1 k124 x3 (gI M 903) (gA M 8 (Int32.toNatClampNeg ((-1 : Int32) - x4_138))) M
        else
          fX1_valueOf_192 n0 q1 k124 x3 (gI M 903) x4_138 M
    else
      (fX1_join n0 x4_138 M).bind fun z150 =>
      fX1_valueOf_203 n0 q1 k124 x3 z150
def fX1_valueOf_124 (n0 : Nat) (q1 : Nat) : Int32 → Mem → Option (Int32 × Mem) := loopN (bX1_valueOf_124 n0 q1) (fun _ _ => none) n0
def fX1_valueOf_116 (n0 : Nat) (q1 : Nat) (u1 : Int32) (u2 : Int32) (M : Mem) : Option (Int32 × Mem) :=
  if oob u1 6 then none else
  bnd (sA M 8 (Int32.toNatClampNeg u1) u2) fun M116 =>
  bnd (sI M116 903 (0 : Int32)) fun M119 =>
  fX1_valueOf_124 n0 q1 (0 : Int32) M119
def fX1_valueOf_90 (n0 : Nat) (q1 : Nat) (x2 : Int32) (u1 : Int32) (u2 : Int32) (M : Mem) : Option (Int32 × Mem) :=
  if oob u1 6 then none else
  bnd (sA M 8 (Int32.toNatClampNeg u1) u2) fun M90 =>
  if x2 = 0 then
    if oob (gI M90 898) 6 then none else
    fX1_valueOf_116 n0 q1 (5 : Int32) (gA M90 ((gR M90 896) + 3) (Int32.toNatClampNeg (gI M90 898))) M90
  else
    fX1_valueOf_116 n0 q1 (5 : Int32) (0 : Int32) M90
def fX1_valueOf_45 (n0 : Nat) (q1 : Nat) (x2 : Int32) (u1 : Int32) (u2 : Int32) (M : Mem) : Option (Int32 × Mem) :=
  if oob u1 6 then none else
  bnd (sA M 8 (Int32.toNatClampNeg u1) u2) fun M45 =>
  if oob (1 : Int32) 6 then none else
  bnd (sA M45 8 (Int32.toNatClampNeg (1 : Int32)) (gI M45 899)) fun M55 =>
  if oob (2 : Int32) 6 then none else
  bnd (sA M55 8 (Int32.toNatClampNeg (2 : Int32)) (gI M55 897)) fun M65 =>
  if oob (3 : Int32) 6 then none else
  bnd (sA M65 8 (Int32.toNatClampNeg (3 : Int32)) (gI M65 900)) fun M75 =>
  if x2 = 0 then
    fX1_valueOf_90 n0 q1 x2 (4 : Int32) (0 : Int32) M75
  else
    fX1_valueOf_90 n0 q1 x2 (4 : Int32) (1 : Int32) M75
def fX1_valueOf_19 (n0 : Nat) (q1 : Nat) (u0 : Int32) (M : Mem) : Option (Int32 × Mem) :=
  if u0 = 0 then
    if oob (gI M 898) 6 then none else
    fX1_valueOf_45 n0 q1 u0 (0 : Int32) (gA M ((gR M 896) + 2) (Int32.toNatClampNeg (gI M 898))) M
  else
    fX1_valueOf_45 n0 q1 u0 (0 : Int32) (0 : Int32) M
def fX1_valueOf (n0 : Nat) (q1 : Nat) (M : Mem) : Option (Int32 × Mem) :=
  (fX9_isThing n0 (gR M 896) (gI M 898) M).bind fun z8 =>
  if z8.1 = 0 then
    fX1_valueOf_19 n0 q1 (1 : Int32) z8.2
  else
    fX1_valueOf_19 n0 q1 (0 : Int32) z8.2
theorem tfX1_valueOf_203 (n0 : Nat) (q1 : Nat) (hq1 : isK LX q1 0) (hO : OKc p (rmL 3) s m args meth c LX D cy ad cX1_valueOf RX1 5 3 (some .int)) (k124 : Int32 → Mem → Option (Int32 × Mem)) (hk124 : ∀ (x3 : Int32) (M : Mem), BL p l e (rmL 3) s m args below meth c LX D cy ad 5 (QI LX D cy ad) 124 [(0, .ref (ad 7)), (1, .ref (ad q1)), (3, .int x3)] [] M (k124 x3 M)) (x3 : Int32) (M : Mem) : BL p l e (rmL 3) s m args below meth c LX D cy ad 5 (QI LX D cy ad) 203 [(0, .ref (ad 7)), (1, .ref (ad q1)), (3, .int x3)] [] M (fX1_valueOf_203 n0 q1 k124 x3 M) := by
  unfold fX1_valueOf_203
  refine b_iinc hO dX1_valueOf_203 2 rfl ic_i_1 (by decide) (lv' := [(3, .int _), (0, .ref _), (1, .ref _)]) rfl ?_
  refine b_goto hO dX1_valueOf_206 (tgt := 124) (by decide) ?_
  refine b_sub [1, 2, 0] rfl ?_
  exact hk124 _ _
theorem tfX1_valueOf_192 (n0 : Nat) (q1 : Nat) (hq1 : isK LX q1 0) (hO : OKc p (rmL 3) s m args meth c LX D cy ad cX1_valueOf RX1 5 3 (some .int)) (k124 : Int32 → Mem → Option (Int32 × Mem)) (hk124 : ∀ (x3 : Int32) (M : Mem), BL p l e (rmL 3) s m args below meth c LX D cy ad 5 (QI LX D cy ad) 124 [(0, .ref (ad 7)), (1, .ref (ad q1)), (3, .int x3)] [] M (k124 x3 M)) (x3 : Int32) (u1 : Int32) (u2 : Int32) (M : Mem) : BL p l e (rmL 3) s m args below meth c LX D cy ad 5 (QI LX D cy ad) 192 [(0, .ref (ad 7)), (1, .ref (ad q1)), (3, .int x3)] [.int u2, .int u1, .ref (ad 9)] M (fX1_valueOf_192 n0 q1 k124 x3 u1 u2 M) := by
  unfold fX1_valueOf_192
  refine b_iast hO kLX_9 (n := 64) rfl dX1_valueOf_192 ?_
  refine b_bnd (fun M192 => ?_)
  refine b_aload_n hO dX1_valueOf_193 0 rfl rfl ?_
  refine b_dup hO dX1_valueOf_194 rfl ?_
  refine b_get hO flX1_31 kLX_7 (v := .int (gI _ 903)) rfl dX1_valueOf_195 ?_
  refine b_iconst hO dX1_valueOf_198 ic_i_1 ?_
  refine b_iadd hO dX1_valueOf_199 ?_
  refine b_putI hO flX1_31 kLX_7 rfl rfl rfl (id := 903) rfl dX1_valueOf_200 ?_
  exact tfX1_valueOf_203 n0 q1 hq1 hO k124 hk124 _ _
theorem tbX1_valueOf_124 (n0 : Nat) (q1 : Nat) (hq1 : isK LX q1 0) (hO : OKc p (rmL 3) s m args meth c LX D cy ad cX1_valueOf RX1 5 3 (some .int)) (k124 : Int32 → Mem → Option (Int32 × Mem)) (hk124 : ∀ (x3 : Int32) (M : Mem), BL p l e (rmL 3) s m args below meth c LX D cy ad 5 (QI LX D cy ad) 124 [(0, .ref (ad 7)), (1, .ref (ad q1)), (3, .int x3)] [] M (k124 x3 M)) (x3 : Int32) (M : Mem) : BL p l e (rmL 3) s m args below meth c LX D cy ad 5 (QI LX D cy ad) 124 [(0, .ref (ad 7)), (1, .ref (ad q1)), (3, .int x3)] [] M (bX1_valueOf_124 n0 q1 k124 x3 M) := by
  unfold bX1_valueOf_124
  refine b_iload_n hO dX1_valueOf_124 2 rfl rfl ?_
  refine b_aload_n hO dX1_valueOf_125 1 rfl rfl ?_
  refine b_get hO flX1_83 hq1 (v := .int (gI _ (128 * q1 + 1))) rfl dX1_valueOf_126 ?_
  refine b_icmp_ge hO dX1_valueOf_129 (tgt := 209) (by decide) ?_ ?_
  · refine b_aload_n hO dX1_valueOf_209 0 rfl rfl ?_
    refine b_get hO flX1_31 kLX_7 (v := .int (gI _ 903)) rfl dX1_valueOf_210 ?_
    refine b_if_le hO dX1_valueOf_213 (tgt := 225) (by decide) ?_ ?_
    · refine b_iconst hO dX1_valueOf_225 ic_i_0 ?_
      exact b_iret hO dX1_valueOf_226
    · refine b_aload_n hO dX1_valueOf_216 0 rfl rfl ?_
      refine b_get hO flX1_28 kLX_7 (v := .ref (ad 9)) rfl dX1_valueOf_217 ?_
      refine b_iconst hO dX1_valueOf_220 ic_i_0 ?_
      refine b_iald hO kLX_9 (n := 64) rfl dX1_valueOf_221 ?_
      refine b_goto hO dX1_valueOf_222 (tgt := 226) (by decide) ?_
      exact b_iret hO dX1_valueOf_226
  · refine b_aload_n hO dX1_valueOf_132 1 rfl rfl ?_
    refine b_get hO flX1_86 hq1 (v := .ref (ad (q1 + 1))) rfl dX1_valueOf_133 ?_
    refine b_iload_n hO dX1_valueOf_136 2 rfl rfl ?_
    refine b_iald hO (kt_0_1 hq1) (n := 1600) (lt_0_1 hq1) dX1_valueOf_137 ?_
    refine b_topI (fun x4_138 => ?_)
    refine b_istore hO dX1_valueOf_138 (by decide) (lv' := [(4, .int _), (0, .ref _), (1, .ref _), (3, .int _)]) rfl ?_
    refine b_iload hO dX1_valueOf_140 0 rfl ?_
    refine b_bipush hO dX1_valueOf_142 ic_b_m6 ?_
    refine b_icmp_ge hO dX1_valueOf_144 (tgt := 156) (by decide) ?_ ?_
    · refine b_aload_n hO dX1_valueOf_156 1 rfl rfl ?_
      refine b_get hO flX1_31 kLX_7 (v := .int (gI _ 903)) rfl dX1_valueOf_157 ?_
      refine b_bipush hO dX1_valueOf_160 ic_b_64 ?_
      refine b_icmp_ge hO dX1_valueOf_162 (tgt := 203) (by decide) ?_ ?_
      · refine b_sub [1, 2, 3] rfl ?_
        exact tfX1_valueOf_203 n0 q1 hq1 hO k124 hk124 _ _
      · refine b_aload_n hO dX1_valueOf_165 1 rfl rfl ?_
        refine b_get hO flX1_28 kLX_7 (v := .ref (ad 9)) rfl dX1_valueOf_166 ?_
        refine b_aload_n hO dX1_valueOf_169 1 rfl rfl ?_
        refine b_get hO flX1_31 kLX_7 (v := .int (gI _ 903)) rfl dX1_valueOf_170 ?_
        refine b_iload hO dX1_valueOf_173 0 rfl ?_
        refine b_if_lt hO dX1_valueOf_175 (tgt := 183) (by decide) ?_ ?_
        · refine b_aload_n hO dX1_valueOf_183 1 rfl rfl ?_
          refine b_get hO flX1_24 kLX_7 (v := .ref (ad 8)) rfl dX1_valueOf_184 ?_
          refine b_iconst hO dX1_valueOf_187 ic_i_m1 ?_
          refine b_iload hO dX1_valueOf_188 0 rfl ?_
          refine b_isub hO dX1_valueOf_190 ?_
          refine b_iald hO kLX_8 (n := 6) rfl dX1_valueOf_191 ?_
          refine b_sub [1, 2, 3] rfl ?_
          exact tfX1_valueOf_192 n0 q1 hq1 hO k124 hk124 _ _ _ _
        · refine b_iload hO dX1_valueOf_178 0 rfl ?_
          refine b_goto hO dX1_valueOf_180 (tgt := 192) (by decide) ?_
          refine b_sub [1, 2, 3] rfl ?_
          exact tfX1_valueOf_192 n0 q1 hq1 hO k124 hk124 _ _ _ _
    · refine b_aload_n hO dX1_valueOf_147 1 rfl rfl ?_
      refine b_iload hO dX1_valueOf_148 0 rfl ?_
      refine b_callVV hO mdX1_join mvX1_join w580 (ci := 1) rfl rfl (by decide) kLX_7 (As := [.int _]) (st := []) (ctX1_join n0 hO.2.2.2.2.2.2.1 _ _) (Nat.le_of_ble_eq_true rfl) rfl rfl (Nat.le_of_ble_eq_true rfl) dX1_valueOf_150 (fun z150 => ?_)
      refine b_goto hO dX1_valueOf_153 (tgt := 203) (by decide) ?_
      refine b_sub [1, 2, 3] rfl ?_
      exact tfX1_valueOf_203 n0 q1 hq1 hO k124 hk124 _ _
theorem lX1_valueOf_124 (n0 : Nat) (q1 : Nat) (hq1 : isK LX q1 0) (hO : OKc p (rmL 3) s m args meth c LX D cy ad cX1_valueOf RX1 5 3 (some .int)) : ∀ (w : Nat) (x3 : Int32) (M : Mem), BL p l e (rmL 3) s m args below meth c LX D cy ad 5 (QI LX D cy ad) 124 [(0, .ref (ad 7)), (1, .ref (ad q1)), (3, .int x3)] [] M (loopN (bX1_valueOf_124 n0 q1) (fun _ _ => none) w x3 M) := by
  intro w
  induction w with
  | zero =>
    intros
    exact b_none
  | succ w ih =>
    intro x3 M
    exact tbX1_valueOf_124 n0 q1 hq1 hO _ ih x3 M
theorem tfX1_valueOf_124 (n0 : Nat) (q1 : Nat) (hq1 : isK LX q1 0) (hO : OKc p (rmL 3) s m args meth c LX D cy ad cX1_valueOf RX1 5 3 (some .int)) (x3 : Int32) (M : Mem) : BL p l e (rmL 3) s m args below meth c LX D cy ad 5 (QI LX D cy ad) 124 [(0, .ref (ad 7)), (1, .ref (ad q1)), (3, .int x3)] [] M (fX1_valueOf_124 n0 q1 x3 M) := lX1_valueOf_124 n0 q1 hq1 hO n0 x3 M
theorem tfX1_valueOf_116 (n0 : Nat) (q1 : Nat) (hq1 : isK LX q1 0) (hO : OKc p (rmL 3) s m args meth c LX D cy ad cX1_valueOf RX1 5 3 (some .int)) (u1 : Int32) (u2 : Int32) (M : Mem) : BL p l e (rmL 3) s m args below meth c LX D cy ad 5 (QI LX D cy ad) 116 [(0, .ref (ad 7)), (1, .ref (ad q1))] [.int u2, .int u1, .ref (ad 8)] M (fX1_valueOf_116 n0 q1 u1 u2 M) := by
  unfold fX1_valueOf_116
  refine b_iast hO kLX_8 (n := 6) rfl dX1_valueOf_116 ?_
  refine b_bnd (fun M116 => ?_)
  refine b_aload_n hO dX1_valueOf_117 0 rfl rfl ?_
  refine b_iconst hO dX1_valueOf_118 ic_i_0 ?_
  refine b_putI hO flX1_31 kLX_7 rfl rfl rfl (id := 903) rfl dX1_valueOf_119 ?_
  refine b_bnd (fun M119 => ?_)
  refine b_iconst hO dX1_valueOf_122 ic_i_0 ?_
  refine b_istore_n hO dX1_valueOf_123 rfl (by decide) (lv' := [(3, .int _), (0, .ref _), (1, .ref _)]) rfl ?_
  refine b_sub [1, 2, 0] rfl ?_
  exact tfX1_valueOf_124 n0 q1 hq1 hO _ _
theorem tfX1_valueOf_90 (n0 : Nat) (q1 : Nat) (hq1 : isK LX q1 0) (hO : OKc p (rmL 3) s m args meth c LX D cy ad cX1_valueOf RX1 5 3 (some .int)) (x2 : Int32) (u1 : Int32) (u2 : Int32) (M : Mem) : BL p l e (rmL 3) s m args below meth c LX D cy ad 5 (QI LX D cy ad) 90 [(0, .ref (ad 7)), (1, .ref (ad q1)), (2, .int x2)] [.int u2, .int u1, .ref (ad 8)] M (fX1_valueOf_90 n0 q1 x2 u1 u2 M) := by
  unfold fX1_valueOf_90
  refine b_iast hO kLX_8 (n := 6) rfl dX1_valueOf_90 ?_
  refine b_bnd (fun M90 => ?_)
  refine b_aload_n hO dX1_valueOf_91 0 rfl rfl ?_
  refine b_get hO flX1_24 kLX_7 (v := .ref (ad 8)) rfl dX1_valueOf_92 ?_
  refine b_iconst hO dX1_valueOf_95 ic_i_5 ?_
  refine b_iload_n hO dX1_valueOf_96 2 rfl rfl ?_
  refine b_if_eq hO dX1_valueOf_97 (tgt := 104) (by decide) ?_ ?_
  · refine b_aload_n hO dX1_valueOf_104 0 rfl rfl ?_
    refine b_getR hO flX1_34 kLX_7 (id := 896) rfl rfl (rk := 9) rfl (by decide) dX1_valueOf_105 (fun hg1 => ?_)
    refine b_get hO flX1_73 hg1 (v := .ref (ad ((gR M90 896) + 3))) rfl dX1_valueOf_108 ?_
    refine b_aload_n hO dX1_valueOf_111 0 rfl rfl ?_
    refine b_get hO flX1_15 kLX_7 (v := .int (gI _ 898)) rfl dX1_valueOf_112 ?_
    refine b_iald hO (kt_9_3 hg1) (n := 6) (lt_9_3 hg1) dX1_valueOf_115 ?_
    refine b_sub [0, 1] rfl ?_
    exact tfX1_valueOf_116 n0 q1 hq1 hO _ _ _
  · refine b_iconst hO dX1_valueOf_100 ic_i_0 ?_
    refine b_goto hO dX1_valueOf_101 (tgt := 116) (by decide) ?_
    refine b_sub [0, 1] rfl ?_
    exact tfX1_valueOf_116 n0 q1 hq1 hO _ _ _
theorem tfX1_valueOf_45 (n0 : Nat) (q1 : Nat) (hq1 : isK LX q1 0) (hO : OKc p (rmL 3) s m args meth c LX D cy ad cX1_valueOf RX1 5 3 (some .int)) (x2 : Int32) (u1 : Int32) (u2 : Int32) (M : Mem) : BL p l e (rmL 3) s m args below meth c LX D cy ad 5 (QI LX D cy ad) 45 [(0, .ref (ad 7)), (1, .ref (ad q1)), (2, .int x2)] [.int u2, .int u1, .ref (ad 8)] M (fX1_valueOf_45 n0 q1 x2 u1 u2 M) := by
  unfold fX1_valueOf_45
  refine b_iast hO kLX_8 (n := 6) rfl dX1_valueOf_45 ?_
  refine b_bnd (fun M45 => ?_)
  refine b_aload_n hO dX1_valueOf_46 0 rfl rfl ?_
  refine b_get hO flX1_24 kLX_7 (v := .ref (ad 8)) rfl dX1_valueOf_47 ?_
  refine b_iconst hO dX1_valueOf_50 ic_i_1 ?_
  refine b_aload_n hO dX1_valueOf_51 0 rfl rfl ?_
  refine b_get hO flX1_18 kLX_7 (v := .int (gI _ 899)) rfl dX1_valueOf_52 ?_
  refine b_iast hO kLX_8 (n := 6) rfl dX1_valueOf_55 ?_
  refine b_bnd (fun M55 => ?_)
  refine b_aload_n hO dX1_valueOf_56 0 rfl rfl ?_
  refine b_get hO flX1_24 kLX_7 (v := .ref (ad 8)) rfl dX1_valueOf_57 ?_
  refine b_iconst hO dX1_valueOf_60 ic_i_2 ?_
  refine b_aload_n hO dX1_valueOf_61 0 rfl rfl ?_
  refine b_get hO flX1_9 kLX_7 (v := .int (gI _ 897)) rfl dX1_valueOf_62 ?_
  refine b_iast hO kLX_8 (n := 6) rfl dX1_valueOf_65 ?_
  refine b_bnd (fun M65 => ?_)
  refine b_aload_n hO dX1_valueOf_66 0 rfl rfl ?_
  refine b_get hO flX1_24 kLX_7 (v := .ref (ad 8)) rfl dX1_valueOf_67 ?_
  refine b_iconst hO dX1_valueOf_70 ic_i_3 ?_
  refine b_aload_n hO dX1_valueOf_71 0 rfl rfl ?_
  refine b_get hO flX1_21 kLX_7 (v := .int (gI _ 900)) rfl dX1_valueOf_72 ?_
  refine b_iast hO kLX_8 (n := 6) rfl dX1_valueOf_75 ?_
  refine b_bnd (fun M75 => ?_)
  refine b_aload_n hO dX1_valueOf_76 0 rfl rfl ?_
  refine b_get hO flX1_24 kLX_7 (v := .ref (ad 8)) rfl dX1_valueOf_77 ?_
  refine b_iconst hO dX1_valueOf_80 ic_i_4 ?_
  refine b_iload_n hO dX1_valueOf_81 2 rfl rfl ?_
  refine b_if_eq hO dX1_valueOf_82 (tgt := 89) (by decide) ?_ ?_
  · refine b_iconst hO dX1_valueOf_89 ic_i_0 ?_
    exact tfX1_valueOf_90 n0 q1 hq1 hO _ _ _ _
  · refine b_iconst hO dX1_valueOf_85 ic_i_1 ?_
    refine b_goto hO dX1_valueOf_86 (tgt := 90) (by decide) ?_
    exact tfX1_valueOf_90 n0 q1 hq1 hO _ _ _ _
theorem tfX1_valueOf_19 (n0 : Nat) (q1 : Nat) (hq1 : isK LX q1 0) (hO : OKc p (rmL 3) s m args meth c LX D cy ad cX1_valueOf RX1 5 3 (some .int)) (u0 : Int32) (M : Mem) : BL p l e (rmL 3) s m args below meth c LX D cy ad 5 (QI LX D cy ad) 19 [(0, .ref (ad 7)), (1, .ref (ad q1))] [.int u0] M (fX1_valueOf_19 n0 q1 u0 M) := by
  unfold fX1_valueOf_19
  refine b_istore_n hO dX1_valueOf_19 rfl (by decide) (lv' := [(2, .int _), (0, .ref _), (1, .ref _)]) rfl ?_
  refine b_aload_n hO dX1_valueOf_20 1 rfl rfl ?_
  refine b_get hO flX1_24 kLX_7 (v := .ref (ad 8)) rfl dX1_valueOf_21 ?_
  refine b_iconst hO dX1_valueOf_24 ic_i_0 ?_
  refine b_iload_n hO dX1_valueOf_25 0 rfl rfl ?_
  refine b_if_eq hO dX1_valueOf_26 (tgt := 33) (by decide) ?_ ?_
  · refine b_aload_n hO dX1_valueOf_33 1 rfl rfl ?_
    refine b_getR hO flX1_34 kLX_7 (id := 896) rfl rfl (rk := 9) rfl (by decide) dX1_valueOf_34 (fun hg1 => ?_)
    refine b_get hO flX1_58 hg1 (v := .ref (ad ((gR M 896) + 2))) rfl dX1_valueOf_37 ?_
    refine b_aload_n hO dX1_valueOf_40 1 rfl rfl ?_
    refine b_get hO flX1_15 kLX_7 (v := .int (gI _ 898)) rfl dX1_valueOf_41 ?_
    refine b_iald hO (kt_9_2 hg1) (n := 6) (lt_9_2 hg1) dX1_valueOf_44 ?_
    refine b_sub [1, 2, 0] rfl ?_
    exact tfX1_valueOf_45 n0 q1 hq1 hO _ _ _ _
  · refine b_iconst hO dX1_valueOf_29 ic_i_0 ?_
    refine b_goto hO dX1_valueOf_30 (tgt := 45) (by decide) ?_
    refine b_sub [1, 2, 0] rfl ?_
    exact tfX1_valueOf_45 n0 q1 hq1 hO _ _ _ _
theorem tfX1_valueOf (n0 : Nat) (q1 : Nat) (hq1 : isK LX q1 0) (hO : OKc p (rmL 3) s m args meth c LX D cy ad cX1_valueOf RX1 5 3 (some .int)) (M : Mem) : BL p l e (rmL 3) s m args below meth c LX D cy ad 5 (QI LX D cy ad) 0 [(0, .ref (ad 7)), (1, .ref (ad q1))] [] M (fX1_valueOf n0 q1 M) := by
  unfold fX1_valueOf
  refine b_aload_n hO dX1_valueOf_0 0 rfl rfl ?_
  refine b_getR hO flX1_34 kLX_7 (id := 896) rfl rfl (rk := 9) rfl (by decide) dX1_valueOf_1 (fun hg1 => ?_)
  refine b_aload_n hO dX1_valueOf_4 0 rfl rfl ?_
  refine b_get hO flX1_15 kLX_7 (v := .int (gI _ 898)) rfl dX1_valueOf_5 ?_
  refine b_callVI hO mdX9_isThing mvX9_isThing w576 (ci := 9) rfl rfl (by decide) hg1 (As := [.int _]) (st := []) (ctX9_isThing n0 _ hg1 hO.2.2.2.2.2.2.1 _ _) (Nat.le_of_ble_eq_true rfl) rfl rfl (Nat.le_of_ble_eq_true rfl) dX1_valueOf_8 (fun z8 => ?_)
  refine b_if_ne hO dX1_valueOf_11 (tgt := 18) (by decide) ?_ ?_
  · refine b_iconst hO dX1_valueOf_18 ic_i_0 ?_
    exact tfX1_valueOf_19 n0 q1 hq1 hO _ _
  · refine b_iconst hO dX1_valueOf_14 ic_i_1 ?_
    refine b_goto hO dX1_valueOf_15 (tgt := 19) (by decide) ?_
    exact tfX1_valueOf_19 n0 q1 hq1 hO _ _
theorem ctX1_valueOf (n0 : Nat) (q1 : Nat) (hq1 : isK LX q1 0) (hI : Inj LX ad) (M : Mem) : CT l LX D cy ad yX1_valueOf cX1_valueOf 5 (some .int) 3 (QI LX D cy ad) [.ref (ad 7), .ref (ad q1)] M (fX1_valueOf n0 q1 M) :=
  CT.mk LXok hI (by decide) (Nat.le_of_ble_eq_true rfl) (fun hO => tfX1_valueOf n0 q1 hq1 hO M)
/-! X1_hourNow -/
def fX1_hourNow_57 (n0 : Nat) (x1 : Int32) (M : Mem) : Option (Int32 × Mem) :=
  some ((imax (0 : Int32) (imin (23 : Int32) x1)), M)
def fX1_hourNow (n0 : Nat) (M : Mem) : Option (Int32 × Mem) :=
  (fX0_isTold n0 ((gR M 896) + 12) M).bind fun z9 =>
  if z9.1 = 0 then
    (fX9_isThing n0 (gR z9.2 896) (gI z9.2 898) z9.2).bind fun z38 =>
    if z38.1 = 0 then
      fX1_hourNow_57 n0 (0 : Int32) z38.2
    else
      if oob (gI z38.2 898) 6 then none else
      bnd (gA z38.2 ((gR z38.2 896) + 2) (Int32.toNatClampNeg (gI z38.2 898))) fun x1_56 =>
      fX1_hourNow_57 n0 x1_56 z38.2
  else
    (fX1_valueOf n0 ((gR z9.2 896) + 12) z9.2).bind fun z23 =>
    fX1_hourNow_57 n0 z23.1 z23.2
theorem tfX1_hourNow_57 (n0 : Nat) (hO : OKc p (rmL 4) s m args meth c LX D cy ad cX1_hourNow RX1 2 4 (some .int)) (x1 : Int32) (M : Mem) : BL p l e (rmL 4) s m args below meth c LX D cy ad 2 (QI LX D cy ad) 57 [(1, .int x1)] [] M (fX1_hourNow_57 n0 x1 M) := by
  unfold fX1_hourNow_57
  refine b_iconst hO dX1_hourNow_57 ic_i_0 ?_
  refine b_bipush hO dX1_hourNow_58 ic_b_23 ?_
  refine b_iload_n hO dX1_hourNow_60 0 rfl rfl ?_
  refine b_mmin hO w590 w591 w136 wm592 (by first | decide | omega) (Nat.le_of_ble_eq_true rfl) dX1_hourNow_61 ?_
  refine b_mmax hO w593 w594 w136 wm595 (by first | decide | omega) (Nat.le_of_ble_eq_true rfl) dX1_hourNow_64 ?_
  exact b_iret hO dX1_hourNow_67
theorem tfX1_hourNow (n0 : Nat) (hO : OKc p (rmL 4) s m args meth c LX D cy ad cX1_hourNow RX1 2 4 (some .int)) (M : Mem) : BL p l e (rmL 4) s m args below meth c LX D cy ad 2 (QI LX D cy ad) 0 [(0, .ref (ad 7))] [] M (fX1_hourNow n0 M) := by
  unfold fX1_hourNow
  refine b_iconst hO dX1_hourNow_0 ic_i_0 ?_
  refine b_istore_n hO dX1_hourNow_1 rfl (by decide) (lv' := [(1, .int _), (0, .ref _)]) rfl ?_
  refine b_aload_n hO dX1_hourNow_2 1 rfl rfl ?_
  refine b_getR hO flX1_34 kLX_7 (id := 896) rfl rfl (rk := 9) rfl (by decide) dX1_hourNow_3 (fun hg1 => ?_)
  refine b_get hO flX1_38 hg1 (v := .ref (ad ((gR M 896) + 12))) rfl dX1_hourNow_6 ?_
  refine b_callVI hO mdX0_isTold mvX0_isTold w568 (ci := 0) rfl rfl (by decide) (kt_9_12 hg1) (As := []) (st := []) (ctX0_isTold n0 _ (kt_9_12 hg1) hO.2.2.2.2.2.2.1 _) (Nat.le_of_ble_eq_true rfl) rfl rfl (Nat.le_of_ble_eq_true rfl) dX1_hourNow_9 (fun z9 => ?_)
  refine b_if_eq hO dX1_hourNow_12 (tgt := 30) (by decide) ?_ ?_
  · refine b_aload_n hO dX1_hourNow_30 1 rfl rfl ?_
    refine b_getR hO flX1_34 kLX_7 (id := 896) rfl rfl (rk := 9) rfl (by decide) dX1_hourNow_31 (fun hg2 => ?_)
    refine b_aload_n hO dX1_hourNow_34 1 rfl rfl ?_
    refine b_get hO flX1_15 kLX_7 (v := .int (gI _ 898)) rfl dX1_hourNow_35 ?_
    refine b_callVI hO mdX9_isThing mvX9_isThing w576 (ci := 9) rfl rfl (by decide) hg2 (As := [.int _]) (st := []) (ctX9_isThing n0 _ hg2 hO.2.2.2.2.2.2.1 _ _) (Nat.le_of_ble_eq_true rfl) rfl rfl (Nat.le_of_ble_eq_true rfl) dX1_hourNow_38 (fun z38 => ?_)
    refine b_if_eq hO dX1_hourNow_41 (tgt := 57) (by decide) ?_ ?_
    · refine b_sub [0] rfl ?_
      exact tfX1_hourNow_57 n0 hO _ _
    · refine b_aload_n hO dX1_hourNow_44 1 rfl rfl ?_
      refine b_getR hO flX1_34 kLX_7 (id := 896) rfl rfl (rk := 9) rfl (by decide) dX1_hourNow_45 (fun hg3 => ?_)
      refine b_get hO flX1_58 hg3 (v := .ref (ad ((gR z38.2 896) + 2))) rfl dX1_hourNow_48 ?_
      refine b_aload_n hO dX1_hourNow_51 1 rfl rfl ?_
      refine b_get hO flX1_15 kLX_7 (v := .int (gI _ 898)) rfl dX1_hourNow_52 ?_
      refine b_iald hO (kt_9_2 hg3) (n := 6) (lt_9_2 hg3) dX1_hourNow_55 ?_
      refine b_topI (fun x1_56 => ?_)
      refine b_istore_n hO dX1_hourNow_56 rfl (by decide) (lv' := [(1, .int _), (0, .ref _)]) rfl ?_
      refine b_sub [0] rfl ?_
      exact tfX1_hourNow_57 n0 hO _ _
  · refine b_aload_n hO dX1_hourNow_15 1 rfl rfl ?_
    refine b_aload_n hO dX1_hourNow_16 1 rfl rfl ?_
    refine b_getR hO flX1_34 kLX_7 (id := 896) rfl rfl (rk := 9) rfl (by decide) dX1_hourNow_17 (fun hg4 => ?_)
    refine b_get hO flX1_38 hg4 (v := .ref (ad ((gR z9.2 896) + 12))) rfl dX1_hourNow_20 ?_
    refine b_callVI hO mdX1_valueOf mvX1_valueOf w572 (ci := 1) rfl rfl (by decide) kLX_7 (As := [.ref _]) (st := []) (ctX1_valueOf n0 _ (kt_9_12 hg4) hO.2.2.2.2.2.2.1 _) (Nat.le_of_ble_eq_true rfl) rfl rfl (Nat.le_of_ble_eq_true rfl) dX1_hourNow_23 (fun z23 => ?_)
    refine b_istore_n hO dX1_hourNow_26 rfl (by decide) (lv' := [(1, .int _), (0, .ref _)]) rfl ?_
    refine b_goto hO dX1_hourNow_27 (tgt := 57) (by decide) ?_
    refine b_sub [0] rfl ?_
    exact tfX1_hourNow_57 n0 hO _ _
theorem ctX1_hourNow (n0 : Nat) (hI : Inj LX ad) (M : Mem) : CT l LX D cy ad yX1_hourNow cX1_hourNow 2 (some .int) 4 (QI LX D cy ad) [.ref (ad 7)] M (fX1_hourNow n0 M) :=
  CT.mk LXok hI (by decide) (Nat.le_of_ble_eq_true rfl) (fun hO => tfX1_hourNow n0 hO M)
/-! X1_goOn -/
def fX1_goOn_106 (n0 : Nat) (u0 : Int32) (M : Mem) : Option (Mem) :=
  if u0 = 0 then
    some M
  else
    bnd (sI M 898 (-1 : Int32)) fun M113 =>
    some (sI M113 899 (0 : Int32))
def fX1_goOn (n0 : Nat) (M : Mem) : Option (Mem) :=
  bnd (sI M 900 (imin (9999 : Int32) ((gI M 900) + (1 : Int32)))) fun M13 =>
  bnd (sI M13 899 (imin (999 : Int32) ((gI M13 899) + (1 : Int32)))) fun M29 =>
  (fX9_isThing n0 (gR M29 896) (gI M29 898) M29).bind fun z40 =>
  if z40.1 = 0 then
    some z40.2
  else
    (fX0_isTold n0 ((gR z40.2 896) + 14) z40.2).bind fun z54 =>
    if z54.1 = 0 then
      if oob (gI z54.2 898) 6 then none else
      if (gI z54.2 899) < (gA z54.2 ((gR z54.2 896) + 3) (Int32.toNatClampNeg (gI z54.2 898))) then
        fX1_goOn_106 n0 (0 : Int32) z54.2
      else
        fX1_goOn_106 n0 (1 : Int32) z54.2
    else
      (fX1_valueOf n0 ((gR z54.2 896) + 14) z54.2).bind fun z68 =>
      if z68.1 = 0 then
        fX1_goOn_106 n0 (0 : Int32) z68.2
      else
        fX1_goOn_106 n0 (1 : Int32) z68.2
theorem tfX1_goOn_106 (n0 : Nat) (hO : OKc p (rmL 4) s m args meth c LX D cy ad cX1_goOn RX1 2 4 none) (u0 : Int32) (M : Mem) : BL p l e (rmL 4) s m args below meth c LX D cy ad 2 (QV LX D cy ad) 106 [(0, .ref (ad 7))] [.int u0] M (fX1_goOn_106 n0 u0 M) := by
  unfold fX1_goOn_106
  refine b_istore_n hO dX1_goOn_106 rfl (by decide) (lv' := [(1, .int _), (0, .ref _)]) rfl ?_
  refine b_iload_n hO dX1_goOn_107 0 rfl rfl ?_
  refine b_if_eq hO dX1_goOn_108 (tgt := 121) (by decide) ?_ ?_
  · exact b_vret hO dX1_goOn_121
  · refine b_aload_n hO dX1_goOn_111 1 rfl rfl ?_
    refine b_iconst hO dX1_goOn_112 ic_i_m1 ?_
    refine b_putI hO flX1_15 kLX_7 rfl rfl rfl (id := 898) rfl dX1_goOn_113 ?_
    refine b_bnd (fun M113 => ?_)
    refine b_aload_n hO dX1_goOn_116 1 rfl rfl ?_
    refine b_iconst hO dX1_goOn_117 ic_i_0 ?_
    refine b_putI hO flX1_18 kLX_7 rfl rfl rfl (id := 899) rfl dX1_goOn_118 ?_
    exact b_vret hO dX1_goOn_121
theorem tfX1_goOn (n0 : Nat) (hO : OKc p (rmL 4) s m args meth c LX D cy ad cX1_goOn RX1 2 4 none) (M : Mem) : BL p l e (rmL 4) s m args below meth c LX D cy ad 2 (QV LX D cy ad) 0 [(0, .ref (ad 7))] [] M (fX1_goOn n0 M) := by
  unfold fX1_goOn
  refine b_aload_n hO dX1_goOn_0 0 rfl rfl ?_
  refine b_sipush hO dX1_goOn_1 ic_s_9999 ?_
  refine b_aload_n hO dX1_goOn_4 0 rfl rfl ?_
  refine b_get hO flX1_21 kLX_7 (v := .int (gI _ 900)) rfl dX1_goOn_5 ?_
  refine b_iconst hO dX1_goOn_8 ic_i_1 ?_
  refine b_iadd hO dX1_goOn_9 ?_
  refine b_mmin hO w590 w591 w136 wm592 (by first | decide | omega) (Nat.le_of_ble_eq_true rfl) dX1_goOn_10 ?_
  refine b_putI hO flX1_21 kLX_7 rfl rfl rfl (id := 900) rfl dX1_goOn_13 ?_
  refine b_bnd (fun M13 => ?_)
  refine b_aload_n hO dX1_goOn_16 0 rfl rfl ?_
  refine b_sipush hO dX1_goOn_17 ic_s_999 ?_
  refine b_aload_n hO dX1_goOn_20 0 rfl rfl ?_
  refine b_get hO flX1_18 kLX_7 (v := .int (gI _ 899)) rfl dX1_goOn_21 ?_
  refine b_iconst hO dX1_goOn_24 ic_i_1 ?_
  refine b_iadd hO dX1_goOn_25 ?_
  refine b_mmin hO w590 w591 w136 wm592 (by first | decide | omega) (Nat.le_of_ble_eq_true rfl) dX1_goOn_26 ?_
  refine b_putI hO flX1_18 kLX_7 rfl rfl rfl (id := 899) rfl dX1_goOn_29 ?_
  refine b_bnd (fun M29 => ?_)
  refine b_aload_n hO dX1_goOn_32 0 rfl rfl ?_
  refine b_getR hO flX1_34 kLX_7 (id := 896) rfl rfl (rk := 9) rfl (by decide) dX1_goOn_33 (fun hg1 => ?_)
  refine b_aload_n hO dX1_goOn_36 0 rfl rfl ?_
  refine b_get hO flX1_15 kLX_7 (v := .int (gI _ 898)) rfl dX1_goOn_37 ?_
  refine b_callVI hO mdX9_isThing mvX9_isThing w576 (ci := 9) rfl rfl (by decide) hg1 (As := [.int _]) (st := []) (ctX9_isThing n0 _ hg1 hO.2.2.2.2.2.2.1 _ _) (Nat.le_of_ble_eq_true rfl) rfl rfl (Nat.le_of_ble_eq_true rfl) dX1_goOn_40 (fun z40 => ?_)
  refine b_if_ne hO dX1_goOn_43 (tgt := 47) (by decide) ?_ ?_
  · refine b_aload_n hO dX1_goOn_47 0 rfl rfl ?_
    refine b_getR hO flX1_34 kLX_7 (id := 896) rfl rfl (rk := 9) rfl (by decide) dX1_goOn_48 (fun hg2 => ?_)
    refine b_get hO flX1_70 hg2 (v := .ref (ad ((gR z40.2 896) + 14))) rfl dX1_goOn_51 ?_
    refine b_callVI hO mdX0_isTold mvX0_isTold w568 (ci := 0) rfl rfl (by decide) (kt_9_14 hg2) (As := []) (st := []) (ctX0_isTold n0 _ (kt_9_14 hg2) hO.2.2.2.2.2.2.1 _) (Nat.le_of_ble_eq_true rfl) rfl rfl (Nat.le_of_ble_eq_true rfl) dX1_goOn_54 (fun z54 => ?_)
    refine b_if_eq hO dX1_goOn_57 (tgt := 82) (by decide) ?_ ?_
    · refine b_aload_n hO dX1_goOn_82 0 rfl rfl ?_
      refine b_get hO flX1_18 kLX_7 (v := .int (gI _ 899)) rfl dX1_goOn_83 ?_
      refine b_aload_n hO dX1_goOn_86 0 rfl rfl ?_
      refine b_getR hO flX1_34 kLX_7 (id := 896) rfl rfl (rk := 9) rfl (by decide) dX1_goOn_87 (fun hg3 => ?_)
      refine b_get hO flX1_73 hg3 (v := .ref (ad ((gR z54.2 896) + 3))) rfl dX1_goOn_90 ?_
      refine b_aload_n hO dX1_goOn_93 0 rfl rfl ?_
      refine b_get hO flX1_15 kLX_7 (v := .int (gI _ 898)) rfl dX1_goOn_94 ?_
      refine b_iald hO (kt_9_3 hg3) (n := 6) (lt_9_3 hg3) dX1_goOn_97 ?_
      refine b_icmp_lt hO dX1_goOn_98 (tgt := 105) (by decide) ?_ ?_
      · refine b_iconst hO dX1_goOn_105 ic_i_0 ?_
        exact tfX1_goOn_106 n0 hO _ _
      · refine b_iconst hO dX1_goOn_101 ic_i_1 ?_
        refine b_goto hO dX1_goOn_102 (tgt := 106) (by decide) ?_
        exact tfX1_goOn_106 n0 hO _ _
    · refine b_aload_n hO dX1_goOn_60 0 rfl rfl ?_
      refine b_aload_n hO dX1_goOn_61 0 rfl rfl ?_
      refine b_getR hO flX1_34 kLX_7 (id := 896) rfl rfl (rk := 9) rfl (by decide) dX1_goOn_62 (fun hg4 => ?_)
      refine b_get hO flX1_70 hg4 (v := .ref (ad ((gR z54.2 896) + 14))) rfl dX1_goOn_65 ?_
      refine b_callVI hO mdX1_valueOf mvX1_valueOf w572 (ci := 1) rfl rfl (by decide) kLX_7 (As := [.ref _]) (st := []) (ctX1_valueOf n0 _ (kt_9_14 hg4) hO.2.2.2.2.2.2.1 _) (Nat.le_of_ble_eq_true rfl) rfl rfl (Nat.le_of_ble_eq_true rfl) dX1_goOn_68 (fun z68 => ?_)
      refine b_if_eq hO dX1_goOn_71 (tgt := 78) (by decide) ?_ ?_
      · refine b_iconst hO dX1_goOn_78 ic_i_0 ?_
        refine b_goto hO dX1_goOn_79 (tgt := 106) (by decide) ?_
        exact tfX1_goOn_106 n0 hO _ _
      · refine b_iconst hO dX1_goOn_74 ic_i_1 ?_
        refine b_goto hO dX1_goOn_75 (tgt := 106) (by decide) ?_
        exact tfX1_goOn_106 n0 hO _ _
  · exact b_vret hO dX1_goOn_46
theorem ctX1_goOn (n0 : Nat) (hI : Inj LX ad) (M : Mem) : CT l LX D cy ad yX1_goOn cX1_goOn 2 none 4 (QV LX D cy ad) [.ref (ad 7)] M (fX1_goOn n0 M) :=
  CT.mk LXok hI (by decide) (Nat.le_of_ble_eq_true rfl) (fun hO => tfX1_goOn n0 hO M)
/-! X1_foresee -/
def fX1_foresee_38 (n0 : Nat) (q1 : Nat) (k23 : Int32 → Int32 → Mem → Option (Int32 × Mem)) (x3 : Int32) (x4 : Int32) (M : Mem) : Option (Int32 × Mem) :=
  (fX1_hourNow n0 M).bind fun z42 =>
  if oob x4 (LX.ln q1) then none else
  bnd (sA z42.2 q1 (Int32.toNatClampNeg x4) z42.1) fun M45 =>
  k23 x3 (x4 + (1 : Int32)) M45
def bX1_foresee_23 (n0 : Nat) (q1 : Nat) (k23 : Int32 → Int32 → Mem → Option (Int32 × Mem)) (x3 : Int32) (x4 : Int32) (M : Mem) : Option (Int32 × Mem) :=
  if x3 < x4 then
    some (x3, M)
  else
    if x4 ≤ 0 then
      fX1_foresee_38 n0 q1 k23 x3 x4 M
    else
      (fX1_goOn n0 M).bind fun z35 =>
      fX1_foresee_38 n0 q1 k23 x3 x4 z35
def fX1_foresee_23 (n0 : Nat) (q1 : Nat) : Int32 → Int32 → Mem → Option (Int32 × Mem) := loopN (bX1_foresee_23 n0 q1) (fun _ _ _ => none) n0
def fX1_foresee (n0 : Nat) (q1 : Nat) (x2 : Int32) (M : Mem) : Option (Int32 × Mem) :=
  bnd (imin (imin x2 ((Int32.ofNat (LX.ln q1)) - (1 : Int32))) ((9999 : Int32) - (gI M 900))) fun x3_19 =>
  fX1_foresee_23 n0 q1 x3_19 (0 : Int32) M
theorem tfX1_foresee_38 (n0 : Nat) (q1 : Nat) (hq1 : isK LX q1 13) (hO : OKc p (rmL 5) s m args meth c LX D cy ad cX1_foresee RX1 5 5 (some .int)) (k23 : Int32 → Int32 → Mem → Option (Int32 × Mem)) (hk23 : ∀ (x3 : Int32) (x4 : Int32) (M : Mem), BL p l e (rmL 5) s m args below meth c LX D cy ad 5 (QI LX D cy ad) 23 [(0, .ref (ad 7)), (1, .ref (ad q1)), (3, .int x3), (4, .int x4)] [] M (k23 x3 x4 M)) (x3 : Int32) (x4 : Int32) (M : Mem) : BL p l e (rmL 5) s m args below meth c LX D cy ad 5 (QI LX D cy ad) 38 [(0, .ref (ad 7)), (1, .ref (ad q1)), (3, .int x3), (4, .int x4)] [] M (fX1_foresee_38 n0 q1 k23 x3 x4 M) := by
  unfold fX1_foresee_38
  refine b_aload_n hO dX1_foresee_38 1 rfl rfl ?_
  refine b_iload hO dX1_foresee_39 3 rfl ?_
  refine b_aload_n hO dX1_foresee_41 0 rfl rfl ?_
  refine b_callVI hO mdX1_hourNow mvX1_hourNow w978 (ci := 1) rfl rfl (by decide) kLX_7 (As := []) (st := [.int _, .ref _]) (ctX1_hourNow n0 hO.2.2.2.2.2.2.1 _) (Nat.le_of_ble_eq_true rfl) rfl rfl (Nat.le_of_ble_eq_true rfl) dX1_foresee_42 (fun z42 => ?_)
  refine b_iast hO hq1 (n := (LX.ln q1)) rfl dX1_foresee_45 ?_
  refine b_bnd (fun M45 => ?_)
  refine b_iinc hO dX1_foresee_46 3 rfl ic_i_1 (by decide) (lv' := [(4, .int _), (0, .ref _), (1, .ref _), (3, .int _)]) rfl ?_
  refine b_goto hO dX1_foresee_49 (tgt := 23) (by decide) ?_
  refine b_sub [1, 2, 3, 0] rfl ?_
  exact hk23 _ _ _
theorem tbX1_foresee_23 (n0 : Nat) (q1 : Nat) (hq1 : isK LX q1 13) (hO : OKc p (rmL 5) s m args meth c LX D cy ad cX1_foresee RX1 5 5 (some .int)) (k23 : Int32 → Int32 → Mem → Option (Int32 × Mem)) (hk23 : ∀ (x3 : Int32) (x4 : Int32) (M : Mem), BL p l e (rmL 5) s m args below meth c LX D cy ad 5 (QI LX D cy ad) 23 [(0, .ref (ad 7)), (1, .ref (ad q1)), (3, .int x3), (4, .int x4)] [] M (k23 x3 x4 M)) (x3 : Int32) (x4 : Int32) (M : Mem) : BL p l e (rmL 5) s m args below meth c LX D cy ad 5 (QI LX D cy ad) 23 [(0, .ref (ad 7)), (1, .ref (ad q1)), (3, .int x3), (4, .int x4)] [] M (bX1_foresee_23 n0 q1 k23 x3 x4 M) := by
  unfold bX1_foresee_23
  refine b_iload hO dX1_foresee_23 3 rfl ?_
  refine b_iload_n hO dX1_foresee_25 2 rfl rfl ?_
  refine b_icmp_gt hO dX1_foresee_26 (tgt := 52) (by decide) ?_ ?_
  · refine b_iload_n hO dX1_foresee_52 2 rfl rfl ?_
    exact b_iret hO dX1_foresee_53
  · refine b_iload hO dX1_foresee_29 3 rfl ?_
    refine b_if_le hO dX1_foresee_31 (tgt := 38) (by decide) ?_ ?_
    · exact tfX1_foresee_38 n0 q1 hq1 hO k23 hk23 _ _ _
    · refine b_aload_n hO dX1_foresee_34 0 rfl rfl ?_
      refine b_callVV hO mdX1_goOn mvX1_goOn w974 (ci := 1) rfl rfl (by decide) kLX_7 (As := []) (st := []) (ctX1_goOn n0 hO.2.2.2.2.2.2.1 _) (Nat.le_of_ble_eq_true rfl) rfl rfl (Nat.le_of_ble_eq_true rfl) dX1_foresee_35 (fun z35 => ?_)
      exact tfX1_foresee_38 n0 q1 hq1 hO k23 hk23 _ _ _
theorem lX1_foresee_23 (n0 : Nat) (q1 : Nat) (hq1 : isK LX q1 13) (hO : OKc p (rmL 5) s m args meth c LX D cy ad cX1_foresee RX1 5 5 (some .int)) : ∀ (w : Nat) (x3 : Int32) (x4 : Int32) (M : Mem), BL p l e (rmL 5) s m args below meth c LX D cy ad 5 (QI LX D cy ad) 23 [(0, .ref (ad 7)), (1, .ref (ad q1)), (3, .int x3), (4, .int x4)] [] M (loopN (bX1_foresee_23 n0 q1) (fun _ _ _ => none) w x3 x4 M) := by
  intro w
  induction w with
  | zero =>
    intros
    exact b_none
  | succ w ih =>
    intro x3 x4 M
    exact tbX1_foresee_23 n0 q1 hq1 hO _ ih x3 x4 M
theorem tfX1_foresee_23 (n0 : Nat) (q1 : Nat) (hq1 : isK LX q1 13) (hO : OKc p (rmL 5) s m args meth c LX D cy ad cX1_foresee RX1 5 5 (some .int)) (x3 : Int32) (x4 : Int32) (M : Mem) : BL p l e (rmL 5) s m args below meth c LX D cy ad 5 (QI LX D cy ad) 23 [(0, .ref (ad 7)), (1, .ref (ad q1)), (3, .int x3), (4, .int x4)] [] M (fX1_foresee_23 n0 q1 x3 x4 M) := lX1_foresee_23 n0 q1 hq1 hO n0 x3 x4 M
theorem tfX1_foresee (n0 : Nat) (q1 : Nat) (hq1 : isK LX q1 13) (hO : OKc p (rmL 5) s m args meth c LX D cy ad cX1_foresee RX1 5 5 (some .int)) (x2 : Int32) (M : Mem) : BL p l e (rmL 5) s m args below meth c LX D cy ad 5 (QI LX D cy ad) 0 [(0, .ref (ad 7)), (1, .ref (ad q1)), (2, .int x2)] [] M (fX1_foresee n0 q1 x2 M) := by
  unfold fX1_foresee
  refine b_iload_n hO dX1_foresee_0 2 rfl rfl ?_
  refine b_aload_n hO dX1_foresee_1 1 rfl rfl ?_
  refine b_alen hO hq1 rfl dX1_foresee_2 ?_
  refine b_iconst hO dX1_foresee_3 ic_i_1 ?_
  refine b_isub hO dX1_foresee_4 ?_
  refine b_mmin hO w590 w591 w136 wm592 (by first | decide | omega) (Nat.le_of_ble_eq_true rfl) dX1_foresee_5 ?_
  refine b_sipush hO dX1_foresee_8 ic_s_9999 ?_
  refine b_aload_n hO dX1_foresee_11 0 rfl rfl ?_
  refine b_get hO flX1_21 kLX_7 (v := .int (gI _ 900)) rfl dX1_foresee_12 ?_
  refine b_isub hO dX1_foresee_15 ?_
  refine b_mmin hO w590 w591 w136 wm592 (by first | decide | omega) (Nat.le_of_ble_eq_true rfl) dX1_foresee_16 ?_
  refine b_topI (fun x3_19 => ?_)
  refine b_istore_n hO dX1_foresee_19 rfl (by decide) (lv' := [(3, .int _), (0, .ref _), (1, .ref _), (2, .int _)]) rfl ?_
  refine b_iconst hO dX1_foresee_20 ic_i_0 ?_
  refine b_istore hO dX1_foresee_21 (by decide) (lv' := [(4, .int _), (3, .int _), (0, .ref _), (1, .ref _), (2, .int _)]) rfl ?_
  refine b_sub [2, 3, 1, 0] rfl ?_
  exact tfX1_foresee_23 n0 q1 hq1 hO _ _ _
theorem ctX1_foresee (n0 : Nat) (q1 : Nat) (hq1 : isK LX q1 13) (hI : Inj LX ad) (x2 : Int32) (M : Mem) : CT l LX D cy ad yX1_foresee cX1_foresee 5 (some .int) 5 (QI LX D cy ad) [.ref (ad 7), .ref (ad q1), .int x2] M (fX1_foresee n0 q1 x2 M) :=
  CT.mk LXok hI (by decide) (Nat.le_of_ble_eq_true rfl) (fun hO => tfX1_foresee n0 q1 hq1 hO x2 M)
end
end
