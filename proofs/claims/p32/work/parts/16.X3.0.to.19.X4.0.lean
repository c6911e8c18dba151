section
section
variable {p : Program} {l : Launch} {e : Env} {s : State} {m : MethodId} {args : Array Value} {below : List Frame} {meth : Method} {c : Code} {D : va_G} {cy : Nat → ClassId} {ad : Nat → Nat} {dd : Nat}

/-! X3_addAndAdvance -/
def fX3_addAndAdvance (n0 : Nat) (x1 : Int32) (M : Mem) : Option (Int32 × Mem) :=
  (fX0_add n0 (gR M 257) x1 M).bind fun z5 =>
  (fX8_advance n0 z5).bind fun z12 =>
  some ((1 : Int32), z12)
theorem tfX3_addAndAdvance (n0 : Nat) (hO : OKc p (rmL 4) s m args meth c LX D cy ad cX3_addAndAdvance RX3 2 4 (some .boolean)) (x1 : Int32) (M : Mem) : BL p l e (rmL 4) s m args below meth c LX D cy ad 2 (QI LX D cy ad) 0 [(0, .ref (ad 2)), (1, .int x1)] [] M (fX3_addAndAdvance n0 x1 M) := by
  unfold fX3_addAndAdvance
  refine b_aload_n hO dX3_addAndAdvance_0 0 rfl rfl ?_
  refine b_getR hO flX3_19 kLX_2 (id := 257) rfl rfl (rk := 0) rfl (by decide) dX3_addAndAdvance_1 (fun hg1 => ?_)
  refine b_iload_n hO dX3_addAndAdvance_4 1 rfl rfl ?_
  refine b_callVV hO mdX0_add mvX0_add w844 (ci := 0) rfl rfl (by decide) hg1 (As := [.int _]) (st := []) (ctX0_add n0 _ hg1 hO.2.2.2.2.2.2.1 _ _) (Nat.le_of_ble_eq_true rfl) rfl rfl (Nat.le_of_ble_eq_true rfl) dX3_addAndAdvance_5 (fun z5 => ?_)
  refine b_aload_n hO dX3_addAndAdvance_8 0 rfl rfl ?_
  refine b_get hO flX3_15 kLX_2 (v := .ref (ad 3)) rfl dX3_addAndAdvance_9 ?_
  refine b_callVV hO mdX8_advance mvX8_advance w848 (ci := 8) rfl rfl (by decide) kLX_3 (As := []) (st := []) (ctX8_advance n0 hO.2.2.2.2.2.2.1 _) (Nat.le_of_ble_eq_true rfl) rfl rfl (Nat.le_of_ble_eq_true rfl) dX3_addAndAdvance_12 (fun z12 => ?_)
  refine b_iconst hO dX3_addAndAdvance_15 ic_i_1 ?_
  exact b_zretc hO (Or.inr rfl) dX3_addAndAdvance_16
theorem ctX3_addAndAdvance (n0 : Nat) (hI : Inj LX ad) (x1 : Int32) (M : Mem) : CT l LX D cy ad yX3_addAndAdvance cX3_addAndAdvance 2 (some .boolean) 4 (QI LX D cy ad) [.ref (ad 2), .int x1] M (fX3_addAndAdvance n0 x1 M) :=
  CT.mk LXok hI (by decide) (Nat.le_of_ble_eq_true rfl) (fun hO => tfX3_addAndAdvance n0 hO x1 M)
/-! X3_goIn -/
def fX3_goIn (n0 : Nat) (x1 : Int32) (x2 : Int32) (M : Mem) : Option (Int32 × Mem) :=
  if (gI M 386) = x1 then
    if x2 < (7 : Int32) then
      (fX8_advance n0 M).bind fun z45 =>
      some ((1 : Int32), z45)
    else
      (fX8_fail n0 (5 : Int32) (gI M 387) M).bind fun z37 =>
      if z37.1 = 0 ∨ z37.1 = 1 then some (z37.1, z37.2) else none
  else
    (fX8_failHere n0 M).bind fun z15 =>
    if z15.1 = 0 ∨ z15.1 = 1 then some (z15.1, z15.2) else none
theorem tfX3_goIn (n0 : Nat) (hO : OKc p (rmL 4) s m args meth c LX D cy ad cX3_goIn RX3 3 4 (some .boolean)) (x1 : Int32) (x2 : Int32) (M : Mem) : BL p l e (rmL 4) s m args below meth c LX D cy ad 3 (QI LX D cy ad) 0 [(0, .ref (ad 2)), (1, .int x1), (2, .int x2)] [] M (fX3_goIn n0 x1 x2 M) := by
  unfold fX3_goIn
  refine b_aload_n hO dX3_goIn_0 0 rfl rfl ?_
  refine b_get hO flX3_15 kLX_2 (v := .ref (ad 3)) rfl dX3_goIn_1 ?_
  refine b_get hO flX3_30 kLX_3 (v := .int (gI _ 386)) rfl dX3_goIn_4 ?_
  refine b_iload_n hO dX3_goIn_7 1 rfl rfl ?_
  refine b_icmp_eq hO dX3_goIn_8 (tgt := 19) (by decide) ?_ ?_
  · refine b_iload_n hO dX3_goIn_19 2 rfl rfl ?_
    refine b_bipush hO dX3_goIn_20 ic_b_7 ?_
    refine b_icmp_lt hO dX3_goIn_22 (tgt := 41) (by decide) ?_ ?_
    · refine b_aload_n hO dX3_goIn_41 0 rfl rfl ?_
      refine b_get hO flX3_15 kLX_2 (v := .ref (ad 3)) rfl dX3_goIn_42 ?_
      refine b_callVV hO mdX8_advance mvX8_advance w848 (ci := 8) rfl rfl (by decide) kLX_3 (As := []) (st := []) (ctX8_advance n0 hO.2.2.2.2.2.2.1 _) (Nat.le_of_ble_eq_true rfl) rfl rfl (Nat.le_of_ble_eq_true rfl) dX3_goIn_45 (fun z45 => ?_)
      refine b_iconst hO dX3_goIn_48 ic_i_1 ?_
      exact b_zretc hO (Or.inr rfl) dX3_goIn_49
    · refine b_aload_n hO dX3_goIn_25 0 rfl rfl ?_
      refine b_get hO flX3_15 kLX_2 (v := .ref (ad 3)) rfl dX3_goIn_26 ?_
      refine b_iconst hO dX3_goIn_29 ic_i_5 ?_
      refine b_aload_n hO dX3_goIn_30 0 rfl rfl ?_
      refine b_get hO flX3_15 kLX_2 (v := .ref (ad 3)) rfl dX3_goIn_31 ?_
      refine b_get hO flX3_40 kLX_3 (v := .int (gI _ 387)) rfl dX3_goIn_34 ?_
      refine b_callVI hO mdX8_fail mvX8_fail w858 (ci := 8) rfl rfl (by decide) kLX_3 (As := [.int _, .int _]) (st := []) (ctX8_fail n0 hO.2.2.2.2.2.2.1 _ _ _) (Nat.le_of_ble_eq_true rfl) rfl rfl (Nat.le_of_ble_eq_true rfl) dX3_goIn_37 (fun z37 => ?_)
      exact b_zret hO dX3_goIn_40
  · refine b_aload_n hO dX3_goIn_11 0 rfl rfl ?_
    refine b_get hO flX3_15 kLX_2 (v := .ref (ad 3)) rfl dX3_goIn_12 ?_
    refine b_callVI hO mdX8_failHere mvX8_failHere w849 (ci := 8) rfl rfl (by decide) kLX_3 (As := []) (st := []) (ctX8_failHere n0 hO.2.2.2.2.2.2.1 _) (Nat.le_of_ble_eq_true rfl) rfl rfl (Nat.le_of_ble_eq_true rfl) dX3_goIn_15 (fun z15 => ?_)
    exact b_zret hO dX3_goIn_18
theorem ctX3_goIn (n0 : Nat) (hI : Inj LX ad) (x1 : Int32) (x2 : Int32) (M : Mem) : CT l LX D cy ad yX3_goIn cX3_goIn 3 (some .boolean) 4 (QI LX D cy ad) [.ref (ad 2), .int x1, .int x2] M (fX3_goIn n0 x1 x2 M) :=
  CT.mk LXok hI (by decide) (Nat.le_of_ble_eq_true rfl) (fun hO => tfX3_goIn n0 hO x1 x2 M)
/-! X3_add -/
def fX3_add (n0 : Nat) (x1 : Int32) (M : Mem) : Option (Int32 × Mem) :=
  (fX0_add n0 (gR M 257) x1 M).bind fun z5 =>
  some ((1 : Int32), z5)
theorem tfX3_add (n0 : Nat) (hO : OKc p (rmL 2) s m args meth c LX D cy ad cX3_add RX3 2 2 (some .boolean)) (x1 : Int32) (M : Mem) : BL p l e (rmL 2) s m args below meth c LX D cy ad 2 (QI LX D cy ad) 0 [(0, .ref (ad 2)), (1, .int x1)] [] M (fX3_add n0 x1 M) := by
  unfold fX3_add
  refine b_aload_n hO dX3_add_0 0 rfl rfl ?_
  refine b_getR hO flX3_19 kLX_2 (id := 257) rfl rfl (rk := 0) rfl (by decide) dX3_add_1 (fun hg1 => ?_)
  refine b_iload_n hO dX3_add_4 1 rfl rfl ?_
  refine b_callVV hO mdX0_add mvX0_add w844 (ci := 0) rfl rfl (by decide) hg1 (As := [.int _]) (st := []) (ctX0_add n0 _ hg1 hO.2.2.2.2.2.2.1 _ _) (Nat.le_of_ble_eq_true rfl) rfl rfl (Nat.le_of_ble_eq_true rfl) dX3_add_5 (fun z5 => ?_)
  refine b_iconst hO dX3_add_8 ic_i_1 ?_
  exact b_zretc hO (Or.inr rfl) dX3_add_9
theorem ctX3_add (n0 : Nat) (hI : Inj LX ad) (x1 : Int32) (M : Mem) : CT l LX D cy ad yX3_add cX3_add 2 (some .boolean) 2 (QI LX D cy ad) [.ref (ad 2), .int x1] M (fX3_add n0 x1 M) :=
  CT.mk LXok hI (by decide) (Nat.le_of_ble_eq_true rfl) (fun hO => tfX3_add n0 hO x1 M)
/-! X3_comparisonStep -/
def fX3_comparisonStep (n0 : Nat) (M : Mem) : Option (Int32 × Mem) :=
  if (gI M 386) = 60 then
    some ((-15 : Int32), M)
  else
  if (gI M 386) = 61 then
    some ((-17 : Int32), M)
  else
  if (gI M 386) = 62 then
    some ((-16 : Int32), M)
  else
  some ((0 : Int32), M)
theorem tfX3_comparisonStep (n0 : Nat) (hO : OKc p (rmL 1) s m args meth c LX D cy ad cX3_comparisonStep RX3 1 1 (some .int)) (M : Mem) : BL p l e (rmL 1) s m args below meth c LX D cy ad 1 (QI LX D cy ad) 0 [(0, .ref (ad 2))] [] M (fX3_comparisonStep n0 M) := by
  unfold fX3_comparisonStep
  refine b_aload_n hO dX3_comparisonStep_0 0 rfl rfl ?_
  refine b_get hO flX3_15 kLX_2 (v := .ref (ad 3)) rfl dX3_comparisonStep_1 ?_
  refine b_get hO flX3_30 kLX_3 (v := .int (gI _ 386)) rfl dX3_comparisonStep_4 ?_
  refine b_tabIn hO dX3_comparisonStep_7 (v := 60) (z := 60) (tgt := 32) (by decide) (by decide) (by decide) rfl (by decide) ?_ (fun hn0 => ?_)
  · refine b_bipush hO dX3_comparisonStep_32 ic_b_m15 ?_
    exact b_iret hO dX3_comparisonStep_34
  refine b_tabIn hO dX3_comparisonStep_7 (v := 61) (z := 61) (tgt := 38) (by decide) (by decide) (by decide) rfl (by decide) ?_ (fun hn1 => ?_)
  · refine b_bipush hO dX3_comparisonStep_38 ic_b_m17 ?_
    exact b_iret hO dX3_comparisonStep_40
  refine b_tabIn hO dX3_comparisonStep_7 (v := 62) (z := 62) (tgt := 35) (by decide) (by decide) (by decide) rfl (by decide) ?_ (fun hn2 => ?_)
  · refine b_bipush hO dX3_comparisonStep_35 ic_b_m16 ?_
    exact b_iret hO dX3_comparisonStep_37
  refine b_tabOut hO dX3_comparisonStep_7 (tgt := 41) (by omega) (by decide) ?_
  refine b_iconst hO dX3_comparisonStep_41 ic_i_0 ?_
  exact b_iret hO dX3_comparisonStep_42
theorem ctX3_comparisonStep (n0 : Nat) (hI : Inj LX ad) (M : Mem) : CT l LX D cy ad yX3_comparisonStep cX3_comparisonStep 1 (some .int) 1 (QI LX D cy ad) [.ref (ad 2)] M (fX3_comparisonStep n0 M) :=
  CT.mk LXok hI (by decide) (Nat.le_of_ble_eq_true rfl) (fun hO => tfX3_comparisonStep n0 hO M)
/-! X3_productStep -/
def fX3_productStep (n0 : Nat) (M : Mem) : Option (Int32 × Mem) :=
  if (gI M 386) = 37 then
    some ((-11 : Int32), M)
  else
  if (gI M 386) = 42 then
    some ((-9 : Int32), M)
  else
  if (gI M 386) = 47 then
    some ((-10 : Int32), M)
  else
  some ((0 : Int32), M)
theorem tfX3_productStep (n0 : Nat) (hO : OKc p (rmL 1) s m args meth c LX D cy ad cX3_productStep RX3 1 1 (some .int)) (M : Mem) : BL p l e (rmL 1) s m args below meth c LX D cy ad 1 (QI LX D cy ad) 0 [(0, .ref (ad 2))] [] M (fX3_productStep n0 M) := by
  unfold fX3_productStep
  refine b_aload_n hO dX3_productStep_0 0 rfl rfl ?_
  refine b_get hO flX3_15 kLX_2 (v := .ref (ad 3)) rfl dX3_productStep_1 ?_
  refine b_get hO flX3_30 kLX_3 (v := .int (gI _ 386)) rfl dX3_productStep_4 ?_
  refine b_lookIn hO dX3_productStep_7 (v := 37) (z := 37) (tgt := 46) (by decide) (by decide) rfl (by decide) ?_ (fun hn0 => ?_)
  · refine b_bipush hO dX3_productStep_46 ic_b_m11 ?_
    exact b_iret hO dX3_productStep_48
  refine b_lookIn hO dX3_productStep_7 (v := 42) (z := 42) (tgt := 40) (by decide) (by decide) rfl (by decide) ?_ (fun hn1 => ?_)
  · refine b_bipush hO dX3_productStep_40 ic_b_m9 ?_
    exact b_iret hO dX3_productStep_42
  refine b_lookIn hO dX3_productStep_7 (v := 47) (z := 47) (tgt := 43) (by decide) (by decide) rfl (by decide) ?_ (fun hn2 => ?_)
  · refine b_bipush hO dX3_productStep_43 ic_b_m10 ?_
    exact b_iret hO dX3_productStep_45
  refine b_lookOut hO dX3_productStep_7 (tgt := 49) (by decide) (by rw [lv_osw hn0 (by decide)]; rw [lv_osw hn1 (by decide)]; rw [lv_osw hn2 (by decide)]; rfl) (by decide) ?_
  refine b_iconst hO dX3_productStep_49 ic_i_0 ?_
  exact b_iret hO dX3_productStep_50
theorem ctX3_productStep (n0 : Nat) (hI : Inj LX ad) (M : Mem) : CT l LX D cy ad yX3_productStep cX3_productStep 1 (some .int) 1 (QI LX D cy ad) [.ref (ad 2)] M (fX3_productStep n0 M) :=
  CT.mk LXok hI (by decide) (Nat.le_of_ble_eq_true rfl) (fun hO => tfX3_productStep n0 hO M)
/-! X3_sumStep -/
def fX3_sumStep (n0 : Nat) (M : Mem) : Option (Int32 × Mem) :=
  if (gI M 386) = 43 then
    some ((-7 : Int32), M)
  else
  if (gI M 386) = 45 then
    some ((-8 : Int32), M)
  else
  some ((0 : Int32), M)
theorem tfX3_sumStep (n0 : Nat) (hO : OKc p (rmL 1) s m args meth c LX D cy ad cX3_sumStep RX3 1 1 (some .int)) (M : Mem) : BL p l e (rmL 1) s m args below meth c LX D cy ad 1 (QI LX D cy ad) 0 [(0, .ref (ad 2))] [] M (fX3_sumStep n0 M) := by
  unfold fX3_sumStep
  refine b_aload_n hO dX3_sumStep_0 0 rfl rfl ?_
  refine b_get hO flX3_15 kLX_2 (v := .ref (ad 3)) rfl dX3_sumStep_1 ?_
  refine b_get hO flX3_30 kLX_3 (v := .int (gI _ 386)) rfl dX3_sumStep_4 ?_
  refine b_lookIn hO dX3_sumStep_7 (v := 43) (z := 43) (tgt := 32) (by decide) (by decide) rfl (by decide) ?_ (fun hn0 => ?_)
  · refine b_bipush hO dX3_sumStep_32 ic_b_m7 ?_
    exact b_iret hO dX3_sumStep_34
  refine b_lookIn hO dX3_sumStep_7 (v := 45) (z := 45) (tgt := 35) (by decide) (by decide) rfl (by decide) ?_ (fun hn1 => ?_)
  · refine b_bipush hO dX3_sumStep_35 ic_b_m8 ?_
    exact b_iret hO dX3_sumStep_37
  refine b_lookOut hO dX3_sumStep_7 (tgt := 38) (by decide) (by rw [lv_osw hn0 (by decide)]; rw [lv_osw hn1 (by decide)]; rfl) (by decide) ?_
  refine b_iconst hO dX3_sumStep_38 ic_i_0 ?_
  exact b_iret hO dX3_sumStep_39
theorem ctX3_sumStep (n0 : Nat) (hI : Inj LX ad) (M : Mem) : CT l LX D cy ad yX3_sumStep cX3_sumStep 1 (some .int) 1 (QI LX D cy ad) [.ref (ad 2)] M (fX3_sumStep n0 M) :=
  CT.mk LXok hI (by decide) (Nat.le_of_ble_eq_true rfl) (fun hO => tfX3_sumStep n0 hO M)
def recOK (l : Launch) (G : Lay) (D : va_G) (cy : Nat → ClassId) (ad : Nat → Nat) (B dd : Nat) (rec : Nat → Int32 → Int32 → Mem → Option (Int32 × Mem)) : Prop :=
  (∀ (a : Int32) (M : Mem), CT l G D cy ad yX3_readSum cX3_readSum 4 (some .boolean) (B + dd) (QI G D cy ad) [.ref (ad 2), .int a] M (rec 0 a 0 M)) ∧
  (∀ (a : Int32) (M : Mem), CT l G D cy ad yX3_readProduct cX3_readProduct 4 (some .boolean) (B + dd) (QI G D cy ad) [.ref (ad 2), .int a] M (rec 1 a 0 M)) ∧
  (∀ (a : Int32) (M : Mem), CT l G D cy ad yX3_readPart cX3_readPart 2 (some .boolean) (B + dd) (QI G D cy ad) [.ref (ad 2), .int a] M (rec 2 a 0 M)) ∧
  (∀ (a b : Int32) (M : Mem), CT l G D cy ad yX3_readPair cX3_readPair 3 (some .boolean) (B + dd) (QI G D cy ad) [.ref (ad 2), .int a, .int b] M (rec 3 a b M)) ∧
  (∀ (a : Int32) (M : Mem), CT l G D cy ad yX3_readChoice cX3_readChoice 2 (some .boolean) (B + dd) (QI G D cy ad) [.ref (ad 2), .int a] M (rec 4 a 0 M)) ∧
  (∀ (a : Int32) (M : Mem), CT l G D cy ad yX3_readTest cX3_readTest 3 (some .boolean) (B + dd) (QI G D cy ad) [.ref (ad 2), .int a] M (rec 5 a 0 M)) ∧
  (∀ (a : Int32) (M : Mem), CT l G D cy ad yX3_readBoth cX3_readBoth 3 (some .boolean) (B + dd) (QI G D cy ad) [.ref (ad 2), .int a] M (rec 6 a 0 M)) ∧
  (∀ (a : Int32) (M : Mem), CT l G D cy ad yX3_readFact cX3_readFact 2 (some .boolean) (B + dd) (QI G D cy ad) [.ref (ad 2), .int a] M (rec 7 a 0 M)) ∧
  (∀ (a : Int32) (M : Mem), CT l G D cy ad yX3_readComparison cX3_readComparison 3 (some .boolean) (B + dd) (QI G D cy ad) [.ref (ad 2), .int a] M (rec 8 a 0 M))
/-! X3_readSum -/
def bX3_readSum_12 (n0 : Nat) (rec : Nat → Int32 → Int32 → Mem → Option (Int32 × Mem)) (k12 : Int32 → Int32 → Mem → Option (Int32 × Mem)) (x1 : Int32) (x2 : Int32) (M : Mem) : Option (Int32 × Mem) :=
  if (1600 : Int32) ≤ x2 then
    some ((1 : Int32), M)
  else
    (fX3_sumStep n0 M).bind fun z20 =>
    if z20.1 = 0 then
      some ((1 : Int32), z20.2)
    else
      (fX3_sumStep n0 z20.2).bind fun z27 =>
      (fX8_advance n0 z27.2).bind fun z35 =>
      (rec 1 x1 (0 : Int32) z35).bind fun z40 =>
      if z40.1 = 0 then
        some ((0 : Int32), z40.2)
      else
        (fX0_add n0 (gR z40.2 257) z27.1 z40.2).bind fun z53 =>
        k12 x1 (x2 + (1 : Int32)) z53
def fX3_readSum_12 (n0 : Nat) (rec : Nat → Int32 → Int32 → Mem → Option (Int32 × Mem)) : Int32 → Int32 → Mem → Option (Int32 × Mem) := loopN (bX3_readSum_12 n0 rec) (fun _ _ _ => none) n0
def fX3_readSum (n0 : Nat) (rec : Nat → Int32 → Int32 → Mem → Option (Int32 × Mem)) (x1 : Int32) (M : Mem) : Option (Int32 × Mem) :=
  (rec 1 x1 (0 : Int32) M).bind fun z2 =>
  if z2.1 = 0 then
    some ((0 : Int32), z2.2)
  else
    fX3_readSum_12 n0 rec x1 (0 : Int32) z2.2
theorem tbX3_readSum_12 (n0 : Nat) (rec : Nat → Int32 → Int32 → Mem → Option (Int32 × Mem)) (hO : OKc p (rmL (5 + dd + 1)) s m args meth c LX D cy ad cX3_readSum RX3 4 (5 + dd + 1) (some .boolean)) (hrec : recOK l LX D cy ad 5 dd rec) (k12 : Int32 → Int32 → Mem → Option (Int32 × Mem)) (hk12 : ∀ (x1 : Int32) (x2 : Int32) (M : Mem), BL p l e (rmL (5 + dd + 1)) s m args below meth c LX D cy ad 4 (QI LX D cy ad) 12 [(0, .ref (ad 2)), (1, .int x1), (2, .int x2)] [] M (k12 x1 x2 M)) (x1 : Int32) (x2 : Int32) (M : Mem) : BL p l e (rmL (5 + dd + 1)) s m args below meth c LX D cy ad 4 (QI LX D cy ad) 12 [(0, .ref (ad 2)), (1, .int x1), (2, .int x2)] [] M (bX3_readSum_12 n0 rec k12 x1 x2 M) := by
  unfold bX3_readSum_12
  refine b_iload_n hO dX3_readSum_12 2 rfl rfl ?_
  refine b_sipush hO dX3_readSum_13 ic_s_1600 ?_
  refine b_icmp_ge hO dX3_readSum_16 (tgt := 62) (by decide) ?_ ?_
  · refine b_iconst hO dX3_readSum_62 ic_i_1 ?_
    exact b_zretc hO (Or.inr rfl) dX3_readSum_63
  · refine b_aload_n hO dX3_readSum_19 0 rfl rfl ?_
    refine b_callVI hO mdX3_sumStep mvX3_sumStep w892 (ci := 3) rfl rfl (by decide) kLX_2 (As := []) (st := []) (ctX3_sumStep n0 hO.2.2.2.2.2.2.1 _) (by omega) rfl rfl (Nat.le_of_ble_eq_true rfl) dX3_readSum_20 (fun z20 => ?_)
    refine b_if_eq hO dX3_readSum_23 (tgt := 62) (by decide) ?_ ?_
    · refine b_iconst hO dX3_readSum_62 ic_i_1 ?_
      exact b_zretc hO (Or.inr rfl) dX3_readSum_63
    · refine b_aload_n hO dX3_readSum_26 0 rfl rfl ?_
      refine b_callVI hO mdX3_sumStep mvX3_sumStep w892 (ci := 3) rfl rfl (by decide) kLX_2 (As := []) (st := []) (ctX3_sumStep n0 hO.2.2.2.2.2.2.1 _) (by omega) rfl rfl (Nat.le_of_ble_eq_true rfl) dX3_readSum_27 (fun z27 => ?_)
      refine b_istore_n hO dX3_readSum_30 rfl (by decide) (lv' := [(3, .int _), (0, .ref _), (1, .int _), (2, .int _)]) rfl ?_
      refine b_aload_n hO dX3_readSum_31 1 rfl rfl ?_
      refine b_get hO flX3_15 kLX_2 (v := .ref (ad 3)) rfl dX3_readSum_32 ?_
      refine b_callVV hO mdX8_advance mvX8_advance w848 (ci := 8) rfl rfl (by decide) kLX_3 (As := []) (st := []) (ctX8_advance n0 hO.2.2.2.2.2.2.1 _) (by omega) rfl rfl (Nat.le_of_ble_eq_true rfl) dX3_readSum_35 (fun z35 => ?_)
      refine b_aload_n hO dX3_readSum_38 1 rfl rfl ?_
      refine b_iload_n hO dX3_readSum_39 2 rfl rfl ?_
      refine b_callVI hO mdX3_readProduct mvX3_readProduct w832 (ci := 3) rfl rfl (by decide) kLX_2 (As := [.int _]) (st := []) (hrec.2.1 _ _) (by omega) rfl rfl (Nat.le_of_ble_eq_true rfl) dX3_readSum_40 (fun z40 => ?_)
      refine b_if_ne hO dX3_readSum_43 (tgt := 48) (by decide) ?_ ?_
      · refine b_aload_n hO dX3_readSum_48 1 rfl rfl ?_
        refine b_getR hO flX3_19 kLX_2 (id := 257) rfl rfl (rk := 0) rfl (by decide) dX3_readSum_49 (fun hg1 => ?_)
        refine b_iload_n hO dX3_readSum_52 0 rfl rfl ?_
        refine b_callVV hO mdX0_add mvX0_add w844 (ci := 0) rfl rfl (by decide) hg1 (As := [.int _]) (st := []) (ctX0_add n0 _ hg1 hO.2.2.2.2.2.2.1 _ _) (by omega) rfl rfl (Nat.le_of_ble_eq_true rfl) dX3_readSum_53 (fun z53 => ?_)
        refine b_iinc hO dX3_readSum_56 3 rfl ic_i_1 (by decide) (lv' := [(2, .int _), (3, .int _), (0, .ref _), (1, .int _)]) rfl ?_
        refine b_goto hO dX3_readSum_59 (tgt := 12) (by decide) ?_
        refine b_sub [2, 3, 0] rfl ?_
        exact hk12 _ _ _
      · refine b_iconst hO dX3_readSum_46 ic_i_0 ?_
        exact b_zretc hO (Or.inl rfl) dX3_readSum_47
theorem lX3_readSum_12 (n0 : Nat) (rec : Nat → Int32 → Int32 → Mem → Option (Int32 × Mem)) (hO : OKc p (rmL (5 + dd + 1)) s m args meth c LX D cy ad cX3_readSum RX3 4 (5 + dd + 1) (some .boolean)) (hrec : recOK l LX D cy ad 5 dd rec) : ∀ (w : Nat) (x1 : Int32) (x2 : Int32) (M : Mem), BL p l e (rmL (5 + dd + 1)) s m args below meth c LX D cy ad 4 (QI LX D cy ad) 12 [(0, .ref (ad 2)), (1, .int x1), (2, .int x2)] [] M (loopN (bX3_readSum_12 n0 rec) (fun _ _ _ => none) w x1 x2 M) := by
  intro w
  induction w with
  | zero =>
    intros
    exact b_none
  | succ w ih =>
    intro x1 x2 M
    exact tbX3_readSum_12 n0 rec hO hrec _ ih x1 x2 M
theorem tfX3_readSum_12 (n0 : Nat) (rec : Nat → Int32 → Int32 → Mem → Option (Int32 × Mem)) (hO : OKc p (rmL (5 + dd + 1)) s m args meth c LX D cy ad cX3_readSum RX3 4 (5 + dd + 1) (some .boolean)) (hrec : recOK l LX D cy ad 5 dd rec) (x1 : Int32) (x2 : Int32) (M : Mem) : BL p l e (rmL (5 + dd + 1)) s m args below meth c LX D cy ad 4 (QI LX D cy ad) 12 [(0, .ref (ad 2)), (1, .int x1), (2, .int x2)] [] M (fX3_readSum_12 n0 rec x1 x2 M) := lX3_readSum_12 n0 rec hO hrec n0 x1 x2 M
theorem tfX3_readSum (n0 : Nat) (rec : Nat → Int32 → Int32 → Mem → Option (Int32 × Mem)) (hO : OKc p (rmL (5 + dd + 1)) s m args meth c LX D cy ad cX3_readSum RX3 4 (5 + dd + 1) (some .boolean)) (hrec : recOK l LX D cy ad 5 dd rec) (x1 : Int32) (M : Mem) : BL p l e (rmL (5 + dd + 1)) s m args below meth c LX D cy ad 4 (QI LX D cy ad) 0 [(0, .ref (ad 2)), (1, .int x1)] [] M (fX3_readSum n0 rec x1 M) := by
  unfold fX3_readSum
  refine b_aload_n hO dX3_readSum_0 0 rfl rfl ?_
  refine b_iload_n hO dX3_readSum_1 1 rfl rfl ?_
  refine b_callVI hO mdX3_readProduct mvX3_readProduct w832 (ci := 3) rfl rfl (by decide) kLX_2 (As := [.int _]) (st := []) (hrec.2.1 _ _) (by omega) rfl rfl (Nat.le_of_ble_eq_true rfl) dX3_readSum_2 (fun z2 => ?_)
  refine b_if_ne hO dX3_readSum_5 (tgt := 10) (by decide) ?_ ?_
  · refine b_iconst hO dX3_readSum_10 ic_i_0 ?_
    refine b_istore_n hO dX3_readSum_11 rfl (by decide) (lv' := [(2, .int _), (0, .ref _), (1, .int _)]) rfl ?_
    refine b_sub [1, 2, 0] rfl ?_
    exact tfX3_readSum_12 n0 rec hO hrec _ _ _
  · refine b_iconst hO dX3_readSum_8 ic_i_0 ?_
    exact b_zretc hO (Or.inl rfl) dX3_readSum_9
theorem ctX3_readSum (n0 : Nat) (rec : Nat → Int32 → Int32 → Mem → Option (Int32 × Mem)) (hI : Inj LX ad) (hrec : recOK l LX D cy ad 5 dd rec) (x1 : Int32) (M : Mem) : CT l LX D cy ad yX3_readSum cX3_readSum 4 (some .boolean) (5 + dd + 1) (QI LX D cy ad) [.ref (ad 2), .int x1] M (fX3_readSum n0 rec x1 M) :=
  CT.mk LXok hI (by decide) (Nat.le_of_ble_eq_true rfl) (fun hO => tfX3_readSum n0 rec hO hrec x1 M)
/-! X3_readProduct -/
def bX3_readProduct_12 (n0 : Nat) (rec : Nat → Int32 → Int32 → Mem → Option (Int32 × Mem)) (k12 : Int32 → Int32 → Mem → Option (Int32 × Mem)) (x1 : Int32) (x2 : Int32) (M : Mem) : Option (Int32 × Mem) :=
  if (1600 : Int32) ≤ x2 then
    some ((1 : Int32), M)
  else
    (fX3_productStep n0 M).bind fun z20 =>
    if z20.1 = 0 then
      some ((1 : Int32), z20.2)
    else
      (fX3_productStep n0 z20.2).bind fun z27 =>
      (fX8_advance n0 z27.2).bind fun z35 =>
      (rec 2 x1 (0 : Int32) z35).bind fun z40 =>
      if z40.1 = 0 then
        some ((0 : Int32), z40.2)
      else
        (fX0_add n0 (gR z40.2 257) z27.1 z40.2).bind fun z53 =>
        k12 x1 (x2 + (1 : Int32)) z53
def fX3_readProduct_12 (n0 : Nat) (rec : Nat → Int32 → Int32 → Mem → Option (Int32 × Mem)) : Int32 → Int32 → Mem → Option (Int32 × Mem) := loopN (bX3_readProduct_12 n0 rec) (fun _ _ _ => none) n0
def fX3_readProduct (n0 : Nat) (rec : Nat → Int32 → Int32 → Mem → Option (Int32 × Mem)) (x1 : Int32) (M : Mem) : Option (Int32 × Mem) :=
  (rec 2 x1 (0 : Int32) M).bind fun z2 =>
  if z2.1 = 0 then
    some ((0 : Int32), z2.2)
  else
    fX3_readProduct_12 n0 rec x1 (0 : Int32) z2.2
theorem tbX3_readProduct_12 (n0 : Nat) (rec : Nat → Int32 → Int32 → Mem → Option (Int32 × Mem)) (hO : OKc p (rmL (5 + dd + 1)) s m args meth c LX D cy ad cX3_readProduct RX3 4 (5 + dd + 1) (some .boolean)) (hrec : recOK l LX D cy ad 5 dd rec) (k12 : Int32 → Int32 → Mem → Option (Int32 × Mem)) (hk12 : ∀ (x1 : Int32) (x2 : Int32) (M : Mem), BL p l e (rmL (5 + dd + 1)) s m args below meth c LX D cy ad 4 (QI LX D cy ad) 12 [(0, .ref (ad 2)), (1, .int x1), (2, .int x2)] [] M (k12 x1 x2 M)) (x1 : Int32) (x2 : Int32) (M : Mem) : BL p l e (rmL (5 + dd + 1)) s m args below meth c LX D cy ad 4 (QI LX D cy ad) 12 [(0, .ref (ad 2)), (1, .int x1), (2, .int x2)] [] M (bX3_readProduct_12 n0 rec k12 x1 x2 M) := by
  unfold bX3_readProduct_12
  refine b_iload_n hO dX3_readProduct_12 2 rfl rfl ?_
  refine b_sipush hO dX3_readProduct_13 ic_s_1600 ?_
  refine b_icmp_ge hO dX3_readProduct_16 (tgt := 62) (by decide) ?_ ?_
  · refine b_iconst hO dX3_readProduct_62 ic_i_1 ?_
    exact b_zretc hO (Or.inr rfl) dX3_readProduct_63
  · refine b_aload_n hO dX3_readProduct_19 0 rfl rfl ?_
    refine b_callVI hO mdX3_productStep mvX3_productStep w888 (ci := 3) rfl rfl (by decide) kLX_2 (As := []) (st := []) (ctX3_productStep n0 hO.2.2.2.2.2.2.1 _) (by omega) rfl rfl (Nat.le_of_ble_eq_true rfl) dX3_readProduct_20 (fun z20 => ?_)
    refine b_if_eq hO dX3_readProduct_23 (tgt := 62) (by decide) ?_ ?_
    · refine b_iconst hO dX3_readProduct_62 ic_i_1 ?_
      exact b_zretc hO (Or.inr rfl) dX3_readProduct_63
    · refine b_aload_n hO dX3_readProduct_26 0 rfl rfl ?_
      refine b_callVI hO mdX3_productStep mvX3_productStep w888 (ci := 3) rfl rfl (by decide) kLX_2 (As := []) (st := []) (ctX3_productStep n0 hO.2.2.2.2.2.2.1 _) (by omega) rfl rfl (Nat.le_of_ble_eq_true rfl) dX3_readProduct_27 (fun z27 => ?_)
      refine b_istore_n hO dX3_readProduct_30 rfl (by decide) (lv' := [(3, .int _), (0, .ref _), (1, .int _), (2, .int _)]) rfl ?_
      refine b_aload_n hO dX3_readProduct_31 1 rfl rfl ?_
      refine b_get hO flX3_15 kLX_2 (v := .ref (ad 3)) rfl dX3_readProduct_32 ?_
      refine b_callVV hO mdX8_advance mvX8_advance w848 (ci := 8) rfl rfl (by decide) kLX_3 (As := []) (st := []) (ctX8_advance n0 hO.2.2.2.2.2.2.1 _) (by omega) rfl rfl (Nat.le_of_ble_eq_true rfl) dX3_readProduct_35 (fun z35 => ?_)
      refine b_aload_n hO dX3_readProduct_38 1 rfl rfl ?_
      refine b_iload_n hO dX3_readProduct_39 2 rfl rfl ?_
      refine b_callVI hO mdX3_readPart mvX3_readPart w836 (ci := 3) rfl rfl (by decide) kLX_2 (As := [.int _]) (st := []) (hrec.2.2.1 _ _) (by omega) rfl rfl (Nat.le_of_ble_eq_true rfl) dX3_readProduct_40 (fun z40 => ?_)
      refine b_if_ne hO dX3_readProduct_43 (tgt := 48) (by decide) ?_ ?_
      · refine b_aload_n hO dX3_readProduct_48 1 rfl rfl ?_
        refine b_getR hO flX3_19 kLX_2 (id := 257) rfl rfl (rk := 0) rfl (by decide) dX3_readProduct_49 (fun hg1 => ?_)
        refine b_iload_n hO dX3_readProduct_52 0 rfl rfl ?_
        refine b_callVV hO mdX0_add mvX0_add w844 (ci := 0) rfl rfl (by decide) hg1 (As := [.int _]) (st := []) (ctX0_add n0 _ hg1 hO.2.2.2.2.2.2.1 _ _) (by omega) rfl rfl (Nat.le_of_ble_eq_true rfl) dX3_readProduct_53 (fun z53 => ?_)
        refine b_iinc hO dX3_readProduct_56 3 rfl ic_i_1 (by decide) (lv' := [(2, .int _), (3, .int _), (0, .ref _), (1, .int _)]) rfl ?_
        refine b_goto hO dX3_readProduct_59 (tgt := 12) (by decide) ?_
        refine b_sub [2, 3, 0] rfl ?_
        exact hk12 _ _ _
      · refine b_iconst hO dX3_readProduct_46 ic_i_0 ?_
        exact b_zretc hO (Or.inl rfl) dX3_readProduct_47
theorem lX3_readProduct_12 (n0 : Nat) (rec : Nat → Int32 → Int32 → Mem → Option (Int32 × Mem)) (hO : OKc p (rmL (5 + dd + 1)) s m args meth c LX D cy ad cX3_readProduct RX3 4 (5 + dd + 1) (some .boolean)) (hrec : recOK l LX D cy ad 5 dd rec) : ∀ (w : Nat) (x1 : Int32) (x2 : Int32) (M : Mem), BL p l e (rmL (5 + dd + 1)) s m args below meth c LX D cy ad 4 (QI LX D cy ad) 12 [(0, .ref (ad 2)), (1, .int x1), (2, .int x2)] [] M (loopN (bX3_readProduct_12 n0 rec) (fun _ _ _ => none) w x1 x2 M) := by
  intro w
  induction w with
  | zero =>
    intros
    exact b_none
  | succ w ih =>
    intro x1 x2 M
    exact tbX3_readProduct_12 n0 rec hO hrec _ ih x1 x2 M
theorem tfX3_readProduct_12 (n0 : Nat) (rec : Nat → Int32 → Int32 → Mem → Option (Int32 × Mem)) (hO : OKc p (rmL (5 + dd + 1)) s m args meth c LX D cy ad cX3_readProduct RX3 4 (5 + dd + 1) (some .boolean)) (hrec : recOK l LX D cy ad 5 dd rec) (x1 : Int32) (x2 : Int32) (M : Mem) : BL p l e (rmL (5 + dd + 1)) s m args below meth c LX D cy ad 4 (QI LX D cy ad) 12 [(0, .ref (ad 2)), (1, .int x1), (2, .int x2)] [] M (fX3_readProduct_12 n0 rec x1 x2 M) := lX3_readProduct_12 n0 rec hO hrec n0 x1 x2 M
theorem tfX3_readProduct (n0 : Nat) (rec : Nat → Int32 → Int32 → Mem → Option (Int32 × Mem)) (hO : OKc p (rmL (5 + dd + 1)) s m args meth c LX D cy ad cX3_readProduct RX3 4 (5 + dd + 1) (some .boolean)) (hrec : recOK l LX D cy ad 5 dd rec) (x1 : Int32) (M : Mem) : BL p l e (rmL (5 + dd + 1)) s m args below meth c LX D cy ad 4 (QI LX D cy ad) 0 [(0, .ref (ad 2)), (1, .int x1)] [] M (fX3_readProduct n0 rec x1 M) := by
  unfold fX3_readProduct
  refine b_aload_n hO dX3_readProduct_0 0 rfl rfl ?_
  refine b_iload_n hO dX3_readProduct_1 1 rfl rfl ?_
  refine b_callVI hO mdX3_readPart mvX3_readPart w836 (ci := 3) rfl rfl (by decide) kLX_2 (As := [.int _]) (st := []) (hrec.2.2.1 _ _) (by omega) rfl rfl (Nat.le_of_ble_eq_true rfl) dX3_readProduct_2 (fun z2 => ?_)
  refine b_if_ne hO dX3_readProduct_5 (tgt := 10) (by decide) ?_ ?_
  · refine b_iconst hO dX3_readProduct_10 ic_i_0 ?_
    refine b_istore_n hO dX3_readProduct_11 rfl (by decide) (lv' := [(2, .int _), (0, .ref _), (1, .int _)]) rfl ?_
    refine b_sub [1, 2, 0] rfl ?_
    exact tfX3_readProduct_12 n0 rec hO hrec _ _ _
  · refine b_iconst hO dX3_readProduct_8 ic_i_0 ?_
    exact b_zretc hO (Or.inl rfl) dX3_readProduct_9
theorem ctX3_readProduct (n0 : Nat) (rec : Nat → Int32 → Int32 → Mem → Option (Int32 × Mem)) (hI : Inj LX ad) (hrec : recOK l LX D cy ad 5 dd rec) (x1 : Int32) (M : Mem) : CT l LX D cy ad yX3_readProduct cX3_readProduct 4 (some .boolean) (5 + dd + 1) (QI LX D cy ad) [.ref (ad 2), .int x1] M (fX3_readProduct n0 rec x1 M) :=
  CT.mk LXok hI (by decide) (Nat.le_of_ble_eq_true rfl) (fun hO => tfX3_readProduct n0 rec hO hrec x1 M)
/-! X3_readPart -/
def fX3_readPart (n0 : Nat) (rec : Nat → Int32 → Int32 → Mem → Option (Int32 × Mem)) (x1 : Int32) (M : Mem) : Option (Int32 × Mem) :=
  if (gI M 386) = 40 then
    (fX3_goIn n0 (40 : Int32) x1 M).bind fun z217 =>
    if z217.1 = 0 then
      some ((0 : Int32), z217.2)
    else
      (rec 0 (x1 + (1 : Int32)) (0 : Int32) z217.2).bind fun z227 =>
      if z227.1 = 0 then
        some ((0 : Int32), z227.2)
      else
        (fX8_skip n0 (41 : Int32) z227.2).bind fun z239 =>
        if z239.1 = 0 then
          some ((0 : Int32), z239.2)
        else
          some ((1 : Int32), z239.2)
  else
  if (gI M 386) = 256 then
    (fX3_addAndAdvance n0 (gI M 389) M).bind fun z112 =>
    if z112.1 = 0 ∨ z112.1 = 1 then some (z112.1, z112.2) else none
  else
  if (gI M 386) = 261 then
    (fX3_addAndAdvance n0 (-1 : Int32) M).bind fun z118 =>
    if z118.1 = 0 ∨ z118.1 = 1 then some (z118.1, z118.2) else none
  else
  if (gI M 386) = 262 then
    if (gI M 258) = 0 then
      (fX8_failHere n0 M).bind fun z187 =>
      if z187.1 = 0 ∨ z187.1 = 1 then some (z187.1, z187.2) else none
    else
      (fX3_addAndAdvance n0 (-6 : Int32) M).bind fun z177 =>
      if z177.1 = 0 ∨ z177.1 = 1 then some (z177.1, z177.2) else none
  else
  if (gI M 386) = 263 then
    (fX3_addAndAdvance n0 (-3 : Int32) M).bind fun z132 =>
    if z132.1 = 0 ∨ z132.1 = 1 then some (z132.1, z132.2) else none
  else
  if (gI M 386) = 275 then
    (fX3_addAndAdvance n0 (-2 : Int32) M).bind fun z125 =>
    if z125.1 = 0 ∨ z125.1 = 1 then some (z125.1, z125.2) else none
  else
  if (gI M 386) = 276 then
    (fX3_addAndAdvance n0 (-4 : Int32) M).bind fun z139 =>
    if z139.1 = 0 ∨ z139.1 = 1 then some (z139.1, z139.2) else none
  else
  if (gI M 386) = 277 then
    if (gI M 258) = 0 then
      (fX3_addAndAdvance n0 (-5 : Int32) M).bind fun z163 =>
      if z163.1 = 0 ∨ z163.1 = 1 then some (z163.1, z163.2) else none
    else
      (fX8_failHere n0 M).bind fun z154 =>
      if z154.1 = 0 ∨ z154.1 = 1 then some (z154.1, z154.2) else none
  else
  if (gI M 386) = 278 then
    (rec 4 x1 (0 : Int32) M).bind fun z209 =>
    if z209.1 = 0 ∨ z209.1 = 1 then some (z209.1, z209.2) else none
  else
  if (gI M 386) = 283 then
    (rec 3 x1 (-12 : Int32) M).bind fun z195 =>
    if z195.1 = 0 ∨ z195.1 = 1 then some (z195.1, z195.2) else none
  else
  if (gI M 386) = 284 then
    (rec 3 x1 (-13 : Int32) M).bind fun z203 =>
    if z203.1 = 0 ∨ z203.1 = 1 then some (z203.1, z203.2) else none
  else
  (fX8_failHere n0 M).bind fun z255 =>
  if z255.1 = 0 ∨ z255.1 = 1 then some (z255.1, z255.2) else none
theorem tfX3_readPart (n0 : Nat) (rec : Nat → Int32 → Int32 → Mem → Option (Int32 × Mem)) (hO : OKc p (rmL (5 + dd + 1)) s m args meth c LX D cy ad cX3_readPart RX3 2 (5 + dd + 1) (some .boolean)) (hrec : recOK l LX D cy ad 5 dd rec) (x1 : Int32) (M : Mem) : BL p l e (rmL (5 + dd + 1)) s m args below meth c LX D cy ad 2 (QI LX D cy ad) 0 [(0, .ref (ad 2)), (1, .int x1)] [] M (fX3_readPart n0 rec x1 M) := by
  unfold fX3_readPart
  refine b_aload_n hO dX3_readPart_0 0 rfl rfl ?_
  refine b_get hO flX3_15 kLX_2 (v := .ref (ad 3)) rfl dX3_readPart_1 ?_
  refine b_get hO flX3_30 kLX_3 (v := .int (gI _ 386)) rfl dX3_readPart_4 ?_
  refine b_lookIn hO dX3_readPart_7 (v := 40) (z := 40) (tgt := 213) (by decide) (by decide) rfl (by decide) ?_ (fun hn0 => ?_)
  · refine b_aload_n hO dX3_readPart_213 0 rfl rfl ?_
    refine b_bipush hO dX3_readPart_214 ic_b_40 ?_
    refine b_iload_n hO dX3_readPart_216 1 rfl rfl ?_
    refine b_callVI hO mdX3_goIn mvX3_goIn w854 (ci := 3) rfl rfl (by decide) kLX_2 (As := [.int _, .int _]) (st := []) (ctX3_goIn n0 hO.2.2.2.2.2.2.1 _ _ _) (by omega) rfl rfl (Nat.le_of_ble_eq_true rfl) dX3_readPart_217 (fun z217 => ?_)
    refine b_if_eq hO dX3_readPart_220 (tgt := 249) (by decide) ?_ ?_
    · refine b_iconst hO dX3_readPart_249 ic_i_0 ?_
      exact b_zretc hO (Or.inl rfl) dX3_readPart_250
    · refine b_aload_n hO dX3_readPart_223 0 rfl rfl ?_
      refine b_iload_n hO dX3_readPart_224 1 rfl rfl ?_
      refine b_iconst hO dX3_readPart_225 ic_i_1 ?_
      refine b_iadd hO dX3_readPart_226 ?_
      refine b_callVI hO mdX3_readSum mvX3_readSum w828 (ci := 3) rfl rfl (by decide) kLX_2 (As := [.int _]) (st := []) (hrec.1 _ _) (by omega) rfl rfl (Nat.le_of_ble_eq_true rfl) dX3_readPart_227 (fun z227 => ?_)
      refine b_if_eq hO dX3_readPart_230 (tgt := 249) (by decide) ?_ ?_
      · refine b_iconst hO dX3_readPart_249 ic_i_0 ?_
        exact b_zretc hO (Or.inl rfl) dX3_readPart_250
      · refine b_aload_n hO dX3_readPart_233 0 rfl rfl ?_
        refine b_get hO flX3_15 kLX_2 (v := .ref (ad 3)) rfl dX3_readPart_234 ?_
        refine b_bipush hO dX3_readPart_237 ic_b_41 ?_
        refine b_callVI hO mdX8_skip mvX8_skip w859 (ci := 8) rfl rfl (by decide) kLX_3 (As := [.int _]) (st := []) (ctX8_skip n0 hO.2.2.2.2.2.2.1 _ _) (by omega) rfl rfl (Nat.le_of_ble_eq_true rfl) dX3_readPart_239 (fun z239 => ?_)
        refine b_if_eq hO dX3_readPart_242 (tgt := 249) (by decide) ?_ ?_
        · refine b_iconst hO dX3_readPart_249 ic_i_0 ?_
          exact b_zretc hO (Or.inl rfl) dX3_readPart_250
        · refine b_iconst hO dX3_readPart_245 ic_i_1 ?_
          refine b_goto hO dX3_readPart_246 (tgt := 250) (by decide) ?_
          exact b_zretc hO (Or.inr rfl) dX3_readPart_250
  refine b_lookIn hO dX3_readPart_7 (v := 256) (z := 256) (tgt := 104) (by decide) (by decide) rfl (by decide) ?_ (fun hn1 => ?_)
  · refine b_aload_n hO dX3_readPart_104 0 rfl rfl ?_
    refine b_aload_n hO dX3_readPart_105 0 rfl rfl ?_
    refine b_get hO flX3_15 kLX_2 (v := .ref (ad 3)) rfl dX3_readPart_106 ?_
    refine b_get hO flX3_69 kLX_3 (v := .int (gI _ 389)) rfl dX3_readPart_109 ?_
    refine b_callVI hO mdX3_addAndAdvance mvX3_addAndAdvance w840 (ci := 3) rfl rfl (by decide) kLX_2 (As := [.int _]) (st := []) (ctX3_addAndAdvance n0 hO.2.2.2.2.2.2.1 _ _) (by omega) rfl rfl (Nat.le_of_ble_eq_true rfl) dX3_readPart_112 (fun z112 => ?_)
    exact b_zret hO dX3_readPart_115
  refine b_lookIn hO dX3_readPart_7 (v := 261) (z := 261) (tgt := 116) (by decide) (by decide) rfl (by decide) ?_ (fun hn2 => ?_)
  · refine b_aload_n hO dX3_readPart_116 0 rfl rfl ?_
    refine b_iconst hO dX3_readPart_117 ic_i_m1 ?_
    refine b_callVI hO mdX3_addAndAdvance mvX3_addAndAdvance w840 (ci := 3) rfl rfl (by decide) kLX_2 (As := [.int _]) (st := []) (ctX3_addAndAdvance n0 hO.2.2.2.2.2.2.1 _ _) (by omega) rfl rfl (Nat.le_of_ble_eq_true rfl) dX3_readPart_118 (fun z118 => ?_)
    exact b_zret hO dX3_readPart_121
  refine b_lookIn hO dX3_readPart_7 (v := 262) (z := 262) (tgt := 167) (by decide) (by decide) rfl (by decide) ?_ (fun hn3 => ?_)
  · refine b_aload_n hO dX3_readPart_167 0 rfl rfl ?_
    refine b_get hO flX3_9 kLX_2 (v := .int (gI _ 258)) rfl dX3_readPart_168 ?_
    refine b_if_eq hO dX3_readPart_171 (tgt := 183) (by decide) ?_ ?_
    · refine b_aload_n hO dX3_readPart_183 0 rfl rfl ?_
      refine b_get hO flX3_15 kLX_2 (v := .ref (ad 3)) rfl dX3_readPart_184 ?_
      refine b_callVI hO mdX8_failHere mvX8_failHere w849 (ci := 8) rfl rfl (by decide) kLX_3 (As := []) (st := []) (ctX8_failHere n0 hO.2.2.2.2.2.2.1 _) (by omega) rfl rfl (Nat.le_of_ble_eq_true rfl) dX3_readPart_187 (fun z187 => ?_)
      exact b_zret hO dX3_readPart_190
    · refine b_aload_n hO dX3_readPart_174 0 rfl rfl ?_
      refine b_bipush hO dX3_readPart_175 ic_b_m6 ?_
      refine b_callVI hO mdX3_addAndAdvance mvX3_addAndAdvance w840 (ci := 3) rfl rfl (by decide) kLX_2 (As := [.int _]) (st := []) (ctX3_addAndAdvance n0 hO.2.2.2.2.2.2.1 _ _) (by omega) rfl rfl (Nat.le_of_ble_eq_true rfl) dX3_readPart_177 (fun z177 => ?_)
      refine b_goto hO dX3_readPart_180 (tgt := 190) (by decide) ?_
      exact b_zret hO dX3_readPart_190
  refine b_lookIn hO dX3_readPart_7 (v := 263) (z := 263) (tgt := 129) (by decide) (by decide) rfl (by decide) ?_ (fun hn4 => ?_)
  · refine b_aload_n hO dX3_readPart_129 0 rfl rfl ?_
    refine b_bipush hO dX3_readPart_130 ic_b_m3 ?_
    refine b_callVI hO mdX3_addAndAdvance mvX3_addAndAdvance w840 (ci := 3) rfl rfl (by decide) kLX_2 (As := [.int _]) (st := []) (ctX3_addAndAdvance n0 hO.2.2.2.2.2.2.1 _ _) (by omega) rfl rfl (Nat.le_of_ble_eq_true rfl) dX3_readPart_132 (fun z132 => ?_)
    exact b_zret hO dX3_readPart_135
  refine b_lookIn hO dX3_readPart_7 (v := 275) (z := 275) (tgt := 122) (by decide) (by decide) rfl (by decide) ?_ (fun hn5 => ?_)
  · refine b_aload_n hO dX3_readPart_122 0 rfl rfl ?_
    refine b_bipush hO dX3_readPart_123 ic_b_m2 ?_
    refine b_callVI hO mdX3_addAndAdvance mvX3_addAndAdvance w840 (ci := 3) rfl rfl (by decide) kLX_2 (As := [.int _]) (st := []) (ctX3_addAndAdvance n0 hO.2.2.2.2.2.2.1 _ _) (by omega) rfl rfl (Nat.le_of_ble_eq_true rfl) dX3_readPart_125 (fun z125 => ?_)
    exact b_zret hO dX3_readPart_128
  refine b_lookIn hO dX3_readPart_7 (v := 276) (z := 276) (tgt := 136) (by decide) (by decide) rfl (by decide) ?_ (fun hn6 => ?_)
  · refine b_aload_n hO dX3_readPart_136 0 rfl rfl ?_
    refine b_bipush hO dX3_readPart_137 ic_b_m4 ?_
    refine b_callVI hO mdX3_addAndAdvance mvX3_addAndAdvance w840 (ci := 3) rfl rfl (by decide) kLX_2 (As := [.int _]) (st := []) (ctX3_addAndAdvance n0 hO.2.2.2.2.2.2.1 _ _) (by omega) rfl rfl (Nat.le_of_ble_eq_true rfl) dX3_readPart_139 (fun z139 => ?_)
    exact b_zret hO dX3_readPart_142
  refine b_lookIn hO dX3_readPart_7 (v := 277) (z := 277) (tgt := 143) (by decide) (by decide) rfl (by decide) ?_ (fun hn7 => ?_)
  · refine b_aload_n hO dX3_readPart_143 0 rfl rfl ?_
    refine b_get hO flX3_9 kLX_2 (v := .int (gI _ 258)) rfl dX3_readPart_144 ?_
    refine b_if_eq hO dX3_readPart_147 (tgt := 160) (by decide) ?_ ?_
    · refine b_aload_n hO dX3_readPart_160 0 rfl rfl ?_
      refine b_bipush hO dX3_readPart_161 ic_b_m5 ?_
      refine b_callVI hO mdX3_addAndAdvance mvX3_addAndAdvance w840 (ci := 3) rfl rfl (by decide) kLX_2 (As := [.int _]) (st := []) (ctX3_addAndAdvance n0 hO.2.2.2.2.2.2.1 _ _) (by omega) rfl rfl (Nat.le_of_ble_eq_true rfl) dX3_readPart_163 (fun z163 => ?_)
      exact b_zret hO dX3_readPart_166
    · refine b_aload_n hO dX3_readPart_150 0 rfl rfl ?_
      refine b_get hO flX3_15 kLX_2 (v := .ref (ad 3)) rfl dX3_readPart_151 ?_
      refine b_callVI hO mdX8_failHere mvX8_failHere w849 (ci := 8) rfl rfl (by decide) kLX_3 (As := []) (st := []) (ctX8_failHere n0 hO.2.2.2.2.2.2.1 _) (by omega) rfl rfl (Nat.le_of_ble_eq_true rfl) dX3_readPart_154 (fun z154 => ?_)
      refine b_goto hO dX3_readPart_157 (tgt := 166) (by decide) ?_
      exact b_zret hO dX3_readPart_166
  refine b_lookIn hO dX3_readPart_7 (v := 278) (z := 278) (tgt := 207) (by decide) (by decide) rfl (by decide) ?_ (fun hn8 => ?_)
  · refine b_aload_n hO dX3_readPart_207 0 rfl rfl ?_
    refine b_iload_n hO dX3_readPart_208 1 rfl rfl ?_
    refine b_callVI hO mdX3_readChoice mvX3_readChoice w864 (ci := 3) rfl rfl (by decide) kLX_2 (As := [.int _]) (st := []) (hrec.2.2.2.2.1 _ _) (by omega) rfl rfl (Nat.le_of_ble_eq_true rfl) dX3_readPart_209 (fun z209 => ?_)
    exact b_zret hO dX3_readPart_212
  refine b_lookIn hO dX3_readPart_7 (v := 283) (z := 283) (tgt := 191) (by decide) (by decide) rfl (by decide) ?_ (fun hn9 => ?_)
  · refine b_aload_n hO dX3_readPart_191 0 rfl rfl ?_
    refine b_iload_n hO dX3_readPart_192 1 rfl rfl ?_
    refine b_bipush hO dX3_readPart_193 ic_b_m12 ?_
    refine b_callVI hO mdX3_readPair mvX3_readPair w850 (ci := 3) rfl rfl (by decide) kLX_2 (As := [.int _, .int _]) (st := []) (hrec.2.2.2.1 _ _ _) (by omega) rfl rfl (Nat.le_of_ble_eq_true rfl) dX3_readPart_195 (fun z195 => ?_)
    exact b_zret hO dX3_readPart_198
  refine b_lookIn hO dX3_readPart_7 (v := 284) (z := 284) (tgt := 199) (by decide) (by decide) rfl (by decide) ?_ (fun hn10 => ?_)
  · refine b_aload_n hO dX3_readPart_199 0 rfl rfl ?_
    refine b_iload_n hO dX3_readPart_200 1 rfl rfl ?_
    refine b_bipush hO dX3_readPart_201 ic_b_m13 ?_
    refine b_callVI hO mdX3_readPair mvX3_readPair w850 (ci := 3) rfl rfl (by decide) kLX_2 (As := [.int _, .int _]) (st := []) (hrec.2.2.2.1 _ _ _) (by omega) rfl rfl (Nat.le_of_ble_eq_true rfl) dX3_readPart_203 (fun z203 => ?_)
    exact b_zret hO dX3_readPart_206
  refine b_lookOut hO dX3_readPart_7 (tgt := 251) (by decide) (by rw [lv_osw hn0 (by decide)]; rw [lv_osw hn1 (by decide)]; rw [lv_osw hn2 (by decide)]; rw [lv_osw hn3 (by decide)]; rw [lv_osw hn4 (by decide)]; rw [lv_osw hn5 (by decide)]; rw [lv_osw hn6 (by decide)]; rw [lv_osw hn7 (by decide)]; rw [lv_osw hn8 (by decide)]; rw [lv_osw hn9 (by decide)]; rw [lv_osw hn10 (by decide)]; rfl) (by decide) ?_
  refine b_aload_n hO dX3_readPart_251 0 rfl rfl ?_
  refine b_get hO flX3_15 kLX_2 (v := .ref (ad 3)) rfl dX3_readPart_252 ?_
  refine b_callVI hO mdX8_failHere mvX8_failHere w849 (ci := 8) rfl rfl (by decide) kLX_3 (As := []) (st := []) (ctX8_failHere n0 hO.2.2.2.2.2.2.1 _) (by omega) rfl rfl (Nat.le_of_ble_eq_true rfl) dX3_readPart_255 (fun z255 => ?_)
  exact b_zret hO dX3_readPart_258
theorem ctX3_readPart (n0 : Nat) (rec : Nat → Int32 → Int32 → Mem → Option (Int32 × Mem)) (hI : Inj LX ad) (hrec : recOK l LX D cy ad 5 dd rec) (x1 : Int32) (M : Mem) : CT l LX D cy ad yX3_readPart cX3_readPart 2 (some .boolean) (5 + dd + 1) (QI LX D cy ad) [.ref (ad 2), .int x1] M (fX3_readPart n0 rec x1 M) :=
  CT.mk LXok hI (by decide) (Nat.le_of_ble_eq_true rfl) (fun hO => tfX3_readPart n0 rec hO hrec x1 M)
/-! X3_readPair -/
def fX3_readPair (n0 : Nat) (rec : Nat → Int32 → Int32 → Mem → Option (Int32 × Mem)) (x1 : Int32) (x2 : Int32) (M : Mem) : Option (Int32 × Mem) :=
  (fX8_advance n0 M).bind fun z4 =>
  (fX3_goIn n0 (40 : Int32) x1 z4).bind fun z11 =>
  if z11.1 = 0 then
    some ((0 : Int32), z11.2)
  else
    (rec 0 (x1 + (1 : Int32)) (0 : Int32) z11.2).bind fun z21 =>
    if z21.1 = 0 then
      some ((0 : Int32), z21.2)
    else
      (fX8_skip n0 (44 : Int32) z21.2).bind fun z33 =>
      if z33.1 = 0 then
        some ((0 : Int32), z33.2)
      else
        (rec 0 (x1 + (1 : Int32)) (0 : Int32) z33.2).bind fun z43 =>
        if z43.1 = 0 then
          some ((0 : Int32), z43.2)
        else
          (fX8_skip n0 (41 : Int32) z43.2).bind fun z55 =>
          if z55.1 = 0 then
            some ((0 : Int32), z55.2)
          else
            (fX3_add n0 x2 z55.2).bind fun z63 =>
            if z63.1 = 0 then
              some ((0 : Int32), z63.2)
            else
              some ((1 : Int32), z63.2)
theorem tfX3_readPair (n0 : Nat) (rec : Nat → Int32 → Int32 → Mem → Option (Int32 × Mem)) (hO : OKc p (rmL (5 + dd + 1)) s m args meth c LX D cy ad cX3_readPair RX3 3 (5 + dd + 1) (some .boolean)) (hrec : recOK l LX D cy ad 5 dd rec) (x1 : Int32) (x2 : Int32) (M : Mem) : BL p l e (rmL (5 + dd + 1)) s m args below meth c LX D cy ad 3 (QI LX D cy ad) 0 [(0, .ref (ad 2)), (1, .int x1), (2, .int x2)] [] M (fX3_readPair n0 rec x1 x2 M) := by
  unfold fX3_readPair
  refine b_aload_n hO dX3_readPair_0 0 rfl rfl ?_
  refine b_get hO flX3_15 kLX_2 (v := .ref (ad 3)) rfl dX3_readPair_1 ?_
  refine b_callVV hO mdX8_advance mvX8_advance w848 (ci := 8) rfl rfl (by decide) kLX_3 (As := []) (st := []) (ctX8_advance n0 hO.2.2.2.2.2.2.1 _) (by omega) rfl rfl (Nat.le_of_ble_eq_true rfl) dX3_readPair_4 (fun z4 => ?_)
  refine b_aload_n hO dX3_readPair_7 0 rfl rfl ?_
  refine b_bipush hO dX3_readPair_8 ic_b_40 ?_
  refine b_iload_n hO dX3_readPair_10 1 rfl rfl ?_
  refine b_callVI hO mdX3_goIn mvX3_goIn w854 (ci := 3) rfl rfl (by decide) kLX_2 (As := [.int _, .int _]) (st := []) (ctX3_goIn n0 hO.2.2.2.2.2.2.1 _ _ _) (by omega) rfl rfl (Nat.le_of_ble_eq_true rfl) dX3_readPair_11 (fun z11 => ?_)
  refine b_if_eq hO dX3_readPair_14 (tgt := 73) (by decide) ?_ ?_
  · refine b_iconst hO dX3_readPair_73 ic_i_0 ?_
    exact b_zretc hO (Or.inl rfl) dX3_readPair_74
  · refine b_aload_n hO dX3_readPair_17 0 rfl rfl ?_
    refine b_iload_n hO dX3_readPair_18 1 rfl rfl ?_
    refine b_iconst hO dX3_readPair_19 ic_i_1 ?_
    refine b_iadd hO dX3_readPair_20 ?_
    refine b_callVI hO mdX3_readSum mvX3_readSum w828 (ci := 3) rfl rfl (by decide) kLX_2 (As := [.int _]) (st := []) (hrec.1 _ _) (by omega) rfl rfl (Nat.le_of_ble_eq_true rfl) dX3_readPair_21 (fun z21 => ?_)
    refine b_if_eq hO dX3_readPair_24 (tgt := 73) (by decide) ?_ ?_
    · refine b_iconst hO dX3_readPair_73 ic_i_0 ?_
      exact b_zretc hO (Or.inl rfl) dX3_readPair_74
    · refine b_aload_n hO dX3_readPair_27 0 rfl rfl ?_
      refine b_get hO flX3_15 kLX_2 (v := .ref (ad 3)) rfl dX3_readPair_28 ?_
      refine b_bipush hO dX3_readPair_31 ic_b_44 ?_
      refine b_callVI hO mdX8_skip mvX8_skip w859 (ci := 8) rfl rfl (by decide) kLX_3 (As := [.int _]) (st := []) (ctX8_skip n0 hO.2.2.2.2.2.2.1 _ _) (by omega) rfl rfl (Nat.le_of_ble_eq_true rfl) dX3_readPair_33 (fun z33 => ?_)
      refine b_if_eq hO dX3_readPair_36 (tgt := 73) (by decide) ?_ ?_
      · refine b_iconst hO dX3_readPair_73 ic_i_0 ?_
        exact b_zretc hO (Or.inl rfl) dX3_readPair_74
      · refine b_aload_n hO dX3_readPair_39 0 rfl rfl ?_
        refine b_iload_n hO dX3_readPair_40 1 rfl rfl ?_
        refine b_iconst hO dX3_readPair_41 ic_i_1 ?_
        refine b_iadd hO dX3_readPair_42 ?_
        refine b_callVI hO mdX3_readSum mvX3_readSum w828 (ci := 3) rfl rfl (by decide) kLX_2 (As := [.int _]) (st := []) (hrec.1 _ _) (by omega) rfl rfl (Nat.le_of_ble_eq_true rfl) dX3_readPair_43 (fun z43 => ?_)
        refine b_if_eq hO dX3_readPair_46 (tgt := 73) (by decide) ?_ ?_
        · refine b_iconst hO dX3_readPair_73 ic_i_0 ?_
          exact b_zretc hO (Or.inl rfl) dX3_readPair_74
        · refine b_aload_n hO dX3_readPair_49 0 rfl rfl ?_
          refine b_get hO flX3_15 kLX_2 (v := .ref (ad 3)) rfl dX3_readPair_50 ?_
          refine b_bipush hO dX3_readPair_53 ic_b_41 ?_
          refine b_callVI hO mdX8_skip mvX8_skip w859 (ci := 8) rfl rfl (by decide) kLX_3 (As := [.int _]) (st := []) (ctX8_skip n0 hO.2.2.2.2.2.2.1 _ _) (by omega) rfl rfl (Nat.le_of_ble_eq_true rfl) dX3_readPair_55 (fun z55 => ?_)
          refine b_if_eq hO dX3_readPair_58 (tgt := 73) (by decide) ?_ ?_
          · refine b_iconst hO dX3_readPair_73 ic_i_0 ?_
            exact b_zretc hO (Or.inl rfl) dX3_readPair_74
          · refine b_aload_n hO dX3_readPair_61 0 rfl rfl ?_
            refine b_iload_n hO dX3_readPair_62 2 rfl rfl ?_
            refine b_callVI hO mdX3_add mvX3_add w860 (ci := 3) rfl rfl (by decide) kLX_2 (As := [.int _]) (st := []) (ctX3_add n0 hO.2.2.2.2.2.2.1 _ _) (by omega) rfl rfl (Nat.le_of_ble_eq_true rfl) dX3_readPair_63 (fun z63 => ?_)
            refine b_if_eq hO dX3_readPair_66 (tgt := 73) (by decide) ?_ ?_
            · refine b_iconst hO dX3_readPair_73 ic_i_0 ?_
              exact b_zretc hO (Or.inl rfl) dX3_readPair_74
            · refine b_iconst hO dX3_readPair_69 ic_i_1 ?_
              refine b_goto hO dX3_readPair_70 (tgt := 74) (by decide) ?_
              exact b_zretc hO (Or.inr rfl) dX3_readPair_74
theorem ctX3_readPair (n0 : Nat) (rec : Nat → Int32 → Int32 → Mem → Option (Int32 × Mem)) (hI : Inj LX ad) (hrec : recOK l LX D cy ad 5 dd rec) (x1 : Int32) (x2 : Int32) (M : Mem) : CT l LX D cy ad yX3_readPair cX3_readPair 3 (some .boolean) (5 + dd + 1) (QI LX D cy ad) [.ref (ad 2), .int x1, .int x2] M (fX3_readPair n0 rec x1 x2 M) :=
  CT.mk LXok hI (by decide) (Nat.le_of_ble_eq_true rfl) (fun hO => tfX3_readPair n0 rec hO hrec x1 x2 M)
/-! X3_readChoice -/
def fX3_readChoice (n0 : Nat) (rec : Nat → Int32 → Int32 → Mem → Option (Int32 × Mem)) (x1 : Int32) (M : Mem) : Option (Int32 × Mem) :=
  (fX8_advance n0 M).bind fun z4 =>
  (fX3_goIn n0 (40 : Int32) x1 z4).bind fun z11 =>
  if z11.1 = 0 then
    some ((0 : Int32), z11.2)
  else
    (rec 5 (x1 + (1 : Int32)) (0 : Int32) z11.2).bind fun z21 =>
    if z21.1 = 0 then
      some ((0 : Int32), z21.2)
    else
      (fX8_skip n0 (44 : Int32) z21.2).bind fun z33 =>
      if z33.1 = 0 then
        some ((0 : Int32), z33.2)
      else
        (rec 0 (x1 + (1 : Int32)) (0 : Int32) z33.2).bind fun z43 =>
        if z43.1 = 0 then
          some ((0 : Int32), z43.2)
        else
          (fX8_skip n0 (44 : Int32) z43.2).bind fun z55 =>
          if z55.1 = 0 then
            some ((0 : Int32), z55.2)
          else
            (rec 0 (x1 + (1 : Int32)) (0 : Int32) z55.2).bind fun z65 =>
            if z65.1 = 0 then
              some ((0 : Int32), z65.2)
            else
              (fX8_skip n0 (41 : Int32) z65.2).bind fun z77 =>
              if z77.1 = 0 then
                some ((0 : Int32), z77.2)
              else
                (fX3_add n0 (-14 : Int32) z77.2).bind fun z86 =>
                if z86.1 = 0 then
                  some ((0 : Int32), z86.2)
                else
                  some ((1 : Int32), z86.2)
theorem tfX3_readChoice (n0 : Nat) (rec : Nat → Int32 → Int32 → Mem → Option (Int32 × Mem)) (hO : OKc p (rmL (5 + dd + 1)) s m args meth c LX D cy ad cX3_readChoice RX3 2 (5 + dd + 1) (some .boolean)) (hrec : recOK l LX D cy ad 5 dd rec) (x1 : Int32) (M : Mem) : BL p l e (rmL (5 + dd + 1)) s m args below meth c LX D cy ad 2 (QI LX D cy ad) 0 [(0, .ref (ad 2)), (1, .int x1)] [] M (fX3_readChoice n0 rec x1 M) := by
  unfold fX3_readChoice
  refine b_aload_n hO dX3_readChoice_0 0 rfl rfl ?_
  refine b_get hO flX3_15 kLX_2 (v := .ref (ad 3)) rfl dX3_readChoice_1 ?_
  refine b_callVV hO mdX8_advance mvX8_advance w848 (ci := 8) rfl rfl (by decide) kLX_3 (As := []) (st := []) (ctX8_advance n0 hO.2.2.2.2.2.2.1 _) (by omega) rfl rfl (Nat.le_of_ble_eq_true rfl) dX3_readChoice_4 (fun z4 => ?_)
  refine b_aload_n hO dX3_readChoice_7 0 rfl rfl ?_
  refine b_bipush hO dX3_readChoice_8 ic_b_40 ?_
  refine b_iload_n hO dX3_readChoice_10 1 rfl rfl ?_
  refine b_callVI hO mdX3_goIn mvX3_goIn w854 (ci := 3) rfl rfl (by decide) kLX_2 (As := [.int _, .int _]) (st := []) (ctX3_goIn n0 hO.2.2.2.2.2.2.1 _ _ _) (by omega) rfl rfl (Nat.le_of_ble_eq_true rfl) dX3_readChoice_11 (fun z11 => ?_)
  refine b_if_eq hO dX3_readChoice_14 (tgt := 96) (by decide) ?_ ?_
  · refine b_iconst hO dX3_readChoice_96 ic_i_0 ?_
    exact b_zretc hO (Or.inl rfl) dX3_readChoice_97
  · refine b_aload_n hO dX3_readChoice_17 0 rfl rfl ?_
    refine b_iload_n hO dX3_readChoice_18 1 rfl rfl ?_
    refine b_iconst hO dX3_readChoice_19 ic_i_1 ?_
    refine b_iadd hO dX3_readChoice_20 ?_
    refine b_callVI hO mdX3_readTest mvX3_readTest w868 (ci := 3) rfl rfl (by decide) kLX_2 (As := [.int _]) (st := []) (hrec.2.2.2.2.2.1 _ _) (by omega) rfl rfl (Nat.le_of_ble_eq_true rfl) dX3_readChoice_21 (fun z21 => ?_)
    refine b_if_eq hO dX3_readChoice_24 (tgt := 96) (by decide) ?_ ?_
    · refine b_iconst hO dX3_readChoice_96 ic_i_0 ?_
      exact b_zretc hO (Or.inl rfl) dX3_readChoice_97
    · refine b_aload_n hO dX3_readChoice_27 0 rfl rfl ?_
      refine b_get hO flX3_15 kLX_2 (v := .ref (ad 3)) rfl dX3_readChoice_28 ?_
      refine b_bipush hO dX3_readChoice_31 ic_b_44 ?_
      refine b_callVI hO mdX8_skip mvX8_skip w859 (ci := 8) rfl rfl (by decide) kLX_3 (As := [.int _]) (st := []) (ctX8_skip n0 hO.2.2.2.2.2.2.1 _ _) (by omega) rfl rfl (Nat.le_of_ble_eq_true rfl) dX3_readChoice_33 (fun z33 => ?_)
      refine b_if_eq hO dX3_readChoice_36 (tgt := 96) (by decide) ?_ ?_
      · refine b_iconst hO dX3_readChoice_96 ic_i_0 ?_
        exact b_zretc hO (Or.inl rfl) dX3_readChoice_97
      · refine b_aload_n hO dX3_readChoice_39 0 rfl rfl ?_
        refine b_iload_n hO dX3_readChoice_40 1 rfl rfl ?_
        refine b_iconst hO dX3_readChoice_41 ic_i_1 ?_
        refine b_iadd hO dX3_readChoice_42 ?_
        refine b_callVI hO mdX3_readSum mvX3_readSum w828 (ci := 3) rfl rfl (by decide) kLX_2 (As := [.int _]) (st := []) (hrec.1 _ _) (by omega) rfl rfl (Nat.le_of_ble_eq_true rfl) dX3_readChoice_43 (fun z43 => ?_)
        refine b_if_eq hO dX3_readChoice_46 (tgt := 96) (by decide) ?_ ?_
        · refine b_iconst hO dX3_readChoice_96 ic_i_0 ?_
          exact b_zretc hO (Or.inl rfl) dX3_readChoice_97
        · refine b_aload_n hO dX3_readChoice_49 0 rfl rfl ?_
          refine b_get hO flX3_15 kLX_2 (v := .ref (ad 3)) rfl dX3_readChoice_50 ?_
          refine b_bipush hO dX3_readChoice_53 ic_b_44 ?_
          refine b_callVI hO mdX8_skip mvX8_skip w859 (ci := 8) rfl rfl (by decide) kLX_3 (As := [.int _]) (st := []) (ctX8_skip n0 hO.2.2.2.2.2.2.1 _ _) (by omega) rfl rfl (Nat.le_of_ble_eq_true rfl) dX3_readChoice_55 (fun z55 => ?_)
          refine b_if_eq hO dX3_readChoice_58 (tgt := 96) (by decide) ?_ ?_
          · refine b_iconst hO dX3_readChoice_96 ic_i_0 ?_
            exact b_zretc hO (Or.inl rfl) dX3_readChoice_97
          · refine b_aload_n hO dX3_readChoice_61 0 rfl rfl ?_
            refine b_iload_n hO dX3_readChoice_62 1 rfl rfl ?_
            refine b_iconst hO dX3_readChoice_63 ic_i_1 ?_
            refine b_iadd hO dX3_readChoice_64 ?_
            refine b_callVI hO mdX3_readSum mvX3_readSum w828 (ci := 3) rfl rfl (by decide) kLX_2 (As := [.int _]) (st := []) (hrec.1 _ _) (by omega) rfl rfl (Nat.le_of_ble_eq_true rfl) dX3_readChoice_65 (fun z65 => ?_)
            refine b_if_eq hO dX3_readChoice_68 (tgt := 96) (by decide) ?_ ?_
            · refine b_iconst hO dX3_readChoice_96 ic_i_0 ?_
              exact b_zretc hO (Or.inl rfl) dX3_readChoice_97
            · refine b_aload_n hO dX3_readChoice_71 0 rfl rfl ?_
              refine b_get hO flX3_15 kLX_2 (v := .ref (ad 3)) rfl dX3_readChoice_72 ?_
              refine b_bipush hO dX3_readChoice_75 ic_b_41 ?_
              refine b_callVI hO mdX8_skip mvX8_skip w859 (ci := 8) rfl rfl (by decide) kLX_3 (As := [.int _]) (st := []) (ctX8_skip n0 hO.2.2.2.2.2.2.1 _ _) (by omega) rfl rfl (Nat.le_of_ble_eq_true rfl) dX3_readChoice_77 (fun z77 => ?_)
              refine b_if_eq hO dX3_readChoice_80 (tgt := 96) (by decide) ?_ ?_
              · refine b_iconst hO dX3_readChoice_96 ic_i_0 ?_
                exact b_zretc hO (Or.inl rfl) dX3_readChoice_97
              · refine b_aload_n hO dX3_readChoice_83 0 rfl rfl ?_
                refine b_bipush hO dX3_readChoice_84 ic_b_m14 ?_
                refine b_callVI hO mdX3_add mvX3_add w860 (ci := 3) rfl rfl (by decide) kLX_2 (As := [.int _]) (st := []) (ctX3_add n0 hO.2.2.2.2.2.2.1 _ _) (by omega) rfl rfl (Nat.le_of_ble_eq_true rfl) dX3_readChoice_86 (fun z86 => ?_)
                refine b_if_eq hO dX3_readChoice_89 (tgt := 96) (by decide) ?_ ?_
                · refine b_iconst hO dX3_readChoice_96 ic_i_0 ?_
                  exact b_zretc hO (Or.inl rfl) dX3_readChoice_97
                · refine b_iconst hO dX3_readChoice_92 ic_i_1 ?_
                  refine b_goto hO dX3_readChoice_93 (tgt := 97) (by decide) ?_
                  exact b_zretc hO (Or.inr rfl) dX3_readChoice_97
theorem ctX3_readChoice (n0 : Nat) (rec : Nat → Int32 → Int32 → Mem → Option (Int32 × Mem)) (hI : Inj LX ad) (hrec : recOK l LX D cy ad 5 dd rec) (x1 : Int32) (M : Mem) : CT l LX D cy ad yX3_readChoice cX3_readChoice 2 (some .boolean) (5 + dd + 1) (QI LX D cy ad) [.ref (ad 2), .int x1] M (fX3_readChoice n0 rec x1 M) :=
  CT.mk LXok hI (by decide) (Nat.le_of_ble_eq_true rfl) (fun hO => tfX3_readChoice n0 rec hO hrec x1 M)
/-! X3_readTest -/
def bX3_readTest_12 (n0 : Nat) (rec : Nat → Int32 → Int32 → Mem → Option (Int32 × Mem)) (k12 : Int32 → Int32 → Mem → Option (Int32 × Mem)) (x1 : Int32) (x2 : Int32) (M : Mem) : Option (Int32 × Mem) :=
  if (1600 : Int32) ≤ x2 then
    some ((1 : Int32), M)
  else
    if (gI M 386) = (279 : Int32) then
      (fX8_advance n0 M).bind fun z36 =>
      (rec 6 x1 (0 : Int32) z36).bind fun z41 =>
      if z41.1 = 0 then
        some ((0 : Int32), z41.2)
      else
        (fX0_add n0 (gR z41.2 257) (-19 : Int32) z41.2).bind fun z55 =>
        k12 x1 (x2 + (1 : Int32)) z55
    else
      some ((1 : Int32), M)
def fX3_readTest_12 (n0 : Nat) (rec : Nat → Int32 → Int32 → Mem → Option (Int32 × Mem)) : Int32 → Int32 → Mem → Option (Int32 × Mem) := loopN (bX3_readTest_12 n0 rec) (fun _ _ _ => none) n0
def fX3_readTest (n0 : Nat) (rec : Nat → Int32 → Int32 → Mem → Option (Int32 × Mem)) (x1 : Int32) (M : Mem) : Option (Int32 × Mem) :=
  (rec 6 x1 (0 : Int32) M).bind fun z2 =>
  if z2.1 = 0 then
    some ((0 : Int32), z2.2)
  else
    fX3_readTest_12 n0 rec x1 (0 : Int32) z2.2
theorem tbX3_readTest_12 (n0 : Nat) (rec : Nat → Int32 → Int32 → Mem → Option (Int32 × Mem)) (hO : OKc p (rmL (5 + dd + 1)) s m args meth c LX D cy ad cX3_readTest RX3 3 (5 + dd + 1) (some .boolean)) (hrec : recOK l LX D cy ad 5 dd rec) (k12 : Int32 → Int32 → Mem → Option (Int32 × Mem)) (hk12 : ∀ (x1 : Int32) (x2 : Int32) (M : Mem), BL p l e (rmL (5 + dd + 1)) s m args below meth c LX D cy ad 3 (QI LX D cy ad) 12 [(0, .ref (ad 2)), (1, .int x1), (2, .int x2)] [] M (k12 x1 x2 M)) (x1 : Int32) (x2 : Int32) (M : Mem) : BL p l e (rmL (5 + dd + 1)) s m args below meth c LX D cy ad 3 (QI LX D cy ad) 12 [(0, .ref (ad 2)), (1, .int x1), (2, .int x2)] [] M (bX3_readTest_12 n0 rec k12 x1 x2 M) := by
  unfold bX3_readTest_12
  refine b_iload_n hO dX3_readTest_12 2 rfl rfl ?_
  refine b_sipush hO dX3_readTest_13 ic_s_1600 ?_
  refine b_icmp_ge hO dX3_readTest_16 (tgt := 64) (by decide) ?_ ?_
  · refine b_iconst hO dX3_readTest_64 ic_i_1 ?_
    exact b_zretc hO (Or.inr rfl) dX3_readTest_65
  · refine b_aload_n hO dX3_readTest_19 0 rfl rfl ?_
    refine b_get hO flX3_15 kLX_2 (v := .ref (ad 3)) rfl dX3_readTest_20 ?_
    refine b_get hO flX3_30 kLX_3 (v := .int (gI _ 386)) rfl dX3_readTest_23 ?_
    refine b_sipush hO dX3_readTest_26 ic_s_279 ?_
    refine b_icmp_ne hO dX3_readTest_29 (tgt := 64) (by decide) ?_ ?_
    · refine b_iconst hO dX3_readTest_64 ic_i_1 ?_
      exact b_zretc hO (Or.inr rfl) dX3_readTest_65
    · refine b_aload_n hO dX3_readTest_32 0 rfl rfl ?_
      refine b_get hO flX3_15 kLX_2 (v := .ref (ad 3)) rfl dX3_readTest_33 ?_
      refine b_callVV hO mdX8_advance mvX8_advance w848 (ci := 8) rfl rfl (by decide) kLX_3 (As := []) (st := []) (ctX8_advance n0 hO.2.2.2.2.2.2.1 _) (by omega) rfl rfl (Nat.le_of_ble_eq_true rfl) dX3_readTest_36 (fun z36 => ?_)
      refine b_aload_n hO dX3_readTest_39 0 rfl rfl ?_
      refine b_iload_n hO dX3_readTest_40 1 rfl rfl ?_
      refine b_callVI hO mdX3_readBoth mvX3_readBoth w872 (ci := 3) rfl rfl (by decide) kLX_2 (As := [.int _]) (st := []) (hrec.2.2.2.2.2.2.1 _ _) (by omega) rfl rfl (Nat.le_of_ble_eq_true rfl) dX3_readTest_41 (fun z41 => ?_)
      refine b_if_ne hO dX3_readTest_44 (tgt := 49) (by decide) ?_ ?_
      · refine b_aload_n hO dX3_readTest_49 0 rfl rfl ?_
        refine b_getR hO flX3_19 kLX_2 (id := 257) rfl rfl (rk := 0) rfl (by decide) dX3_readTest_50 (fun hg1 => ?_)
        refine b_bipush hO dX3_readTest_53 ic_b_m19 ?_
        refine b_callVV hO mdX0_add mvX0_add w844 (ci := 0) rfl rfl (by decide) hg1 (As := [.int _]) (st := []) (ctX0_add n0 _ hg1 hO.2.2.2.2.2.2.1 _ _) (by omega) rfl rfl (Nat.le_of_ble_eq_true rfl) dX3_readTest_55 (fun z55 => ?_)
        refine b_iinc hO dX3_readTest_58 2 rfl ic_i_1 (by decide) (lv' := [(2, .int _), (0, .ref _), (1, .int _)]) rfl ?_
        refine b_goto hO dX3_readTest_61 (tgt := 12) (by decide) ?_
        refine b_sub [1, 2, 0] rfl ?_
        exact hk12 _ _ _
      · refine b_iconst hO dX3_readTest_47 ic_i_0 ?_
        exact b_zretc hO (Or.inl rfl) dX3_readTest_48
theorem lX3_readTest_12 (n0 : Nat) (rec : Nat → Int32 → Int32 → Mem → Option (Int32 × Mem)) (hO : OKc p (rmL (5 + dd + 1)) s m args meth c LX D cy ad cX3_readTest RX3 3 (5 + dd + 1) (some .boolean)) (hrec : recOK l LX D cy ad 5 dd rec) : ∀ (w : Nat) (x1 : Int32) (x2 : Int32) (M : Mem), BL p l e (rmL (5 + dd + 1)) s m args below meth c LX D cy ad 3 (QI LX D cy ad) 12 [(0, .ref (ad 2)), (1, .int x1), (2, .int x2)] [] M (loopN (bX3_readTest_12 n0 rec) (fun _ _ _ => none) w x1 x2 M) := by
  intro w
  induction w with
  | zero =>
    intros
    exact b_none
  | succ w ih =>
    intro x1 x2 M
    exact tbX3_readTest_12 n0 rec hO hrec _ ih x1 x2 M
theorem tfX3_readTest_12 (n0 : Nat) (rec : Nat → Int32 → Int32 → Mem → Option (Int32 × Mem)) (hO : OKc p (rmL (5 + dd + 1)) s m args meth c LX D cy ad cX3_readTest RX3 3 (5 + dd + 1) (some .boolean)) (hrec : recOK l LX D cy ad 5 dd rec) (x1 : Int32) (x2 : Int32) (M : Mem) : BL p l e (rmL (5 + dd + 1)) s m args below meth c LX D cy ad 3 (QI LX D cy ad) 12 [(0, .ref (ad 2)), (1, .int x1), (2, .int x2)] [] M (fX3_readTest_12 n0 rec x1 x2 M) := lX3_readTest_12 n0 rec hO hrec n0 x1 x2 M
theorem tfX3_readTest (n0 : Nat) (rec : Nat → Int32 → Int32 → Mem → Option (Int32 × Mem)) (hO : OKc p (rmL (5 + dd + 1)) s m args meth c LX D cy ad cX3_readTest RX3 3 (5 + dd + 1) (some .boolean)) (hrec : recOK l LX D cy ad 5 dd rec) (x1 : Int32) (M : Mem) : BL p l e (rmL (5 + dd + 1)) s m args below meth c LX D cy ad 3 (QI LX D cy ad) 0 [(0, .ref (ad 2)), (1, .int x1)] [] M (fX3_readTest n0 rec x1 M) := by
  unfold fX3_readTest
  refine b_aload_n hO dX3_readTest_0 0 rfl rfl ?_
  refine b_iload_n hO dX3_readTest_1 1 rfl rfl ?_
  refine b_callVI hO mdX3_readBoth mvX3_readBoth w872 (ci := 3) rfl rfl (by decide) kLX_2 (As := [.int _]) (st := []) (hrec.2.2.2.2.2.2.1 _ _) (by omega) rfl rfl (Nat.le_of_ble_eq_true rfl) dX3_readTest_2 (fun z2 => ?_)
  refine b_if_ne hO dX3_readTest_5 (tgt := 10) (by decide) ?_ ?_
  · refine b_iconst hO dX3_readTest_10 ic_i_0 ?_
    refine b_istore_n hO dX3_readTest_11 rfl (by decide) (lv' := [(2, .int _), (0, .ref _), (1, .int _)]) rfl ?_
    refine b_sub [1, 2, 0] rfl ?_
    exact tfX3_readTest_12 n0 rec hO hrec _ _ _
  · refine b_iconst hO dX3_readTest_8 ic_i_0 ?_
    exact b_zretc hO (Or.inl rfl) dX3_readTest_9
theorem ctX3_readTest (n0 : Nat) (rec : Nat → Int32 → Int32 → Mem → Option (Int32 × Mem)) (hI : Inj LX ad) (hrec : recOK l LX D cy ad 5 dd rec) (x1 : Int32) (M : Mem) : CT l LX D cy ad yX3_readTest cX3_readTest 3 (some .boolean) (5 + dd + 1) (QI LX D cy ad) [.ref (ad 2), .int x1] M (fX3_readTest n0 rec x1 M) :=
  CT.mk LXok hI (by decide) (Nat.le_of_ble_eq_true rfl) (fun hO => tfX3_readTest n0 rec hO hrec x1 M)
/-! X3_readBoth -/
def bX3_readBoth_12 (n0 : Nat) (rec : Nat → Int32 → Int32 → Mem → Option (Int32 × Mem)) (k12 : Int32 → Int32 → Mem → Option (Int32 × Mem)) (x1 : Int32) (x2 : Int32) (M : Mem) : Option (Int32 × Mem) :=
  if (1600 : Int32) ≤ x2 then
    some ((1 : Int32), M)
  else
    if (gI M 386) = (280 : Int32) then
      (fX8_advance n0 M).bind fun z36 =>
      (rec 7 x1 (0 : Int32) z36).bind fun z41 =>
      if z41.1 = 0 then
        some ((0 : Int32), z41.2)
      else
        (fX0_add n0 (gR z41.2 257) (-18 : Int32) z41.2).bind fun z55 =>
        k12 x1 (x2 + (1 : Int32)) z55
    else
      some ((1 : Int32), M)
def fX3_readBoth_12 (n0 : Nat) (rec : Nat → Int32 → Int32 → Mem → Option (Int32 × Mem)) : Int32 → Int32 → Mem → Option (Int32 × Mem) := loopN (bX3_readBoth_12 n0 rec) (fun _ _ _ => none) n0
def fX3_readBoth (n0 : Nat) (rec : Nat → Int32 → Int32 → Mem → Option (Int32 × Mem)) (x1 : Int32) (M : Mem) : Option (Int32 × Mem) :=
  (rec 7 x1 (0 : Int32) M).bind fun z2 =>
  if z2.1 = 0 then
    some ((0 : Int32), z2.2)
  else
    fX3_readBoth_12 n0 rec x1 (0 : Int32) z2.2
theorem tbX3_readBoth_12 (n0 : Nat) (rec : Nat → Int32 → Int32 → Mem → Option (Int32 × Mem)) (hO : OKc p (rmL (5 + dd + 1)) s m args meth c LX D cy ad cX3_readBoth RX3 3 (5 + dd + 1) (some .boolean)) (hrec : recOK l LX D cy ad 5 dd rec) (k12 : Int32 → Int32 → Mem → Option (Int32 × Mem)) (hk12 : ∀ (x1 : Int32) (x2 : Int32) (M : Mem), BL p l e (rmL (5 + dd + 1)) s m args below meth c LX D cy ad 3 (QI LX D cy ad) 12 [(0, .ref (ad 2)), (1, .int x1), (2, .int x2)] [] M (k12 x1 x2 M)) (x1 : Int32) (x2 : Int32) (M : Mem) : BL p l e (rmL (5 + dd + 1)) s m args below meth c LX D cy ad 3 (QI LX D cy ad) 12 [(0, .ref (ad 2)), (1, .int x1), (2, .int x2)] [] M (bX3_readBoth_12 n0 rec k12 x1 x2 M) := by
  unfold bX3_readBoth_12
  refine b_iload_n hO dX3_readBoth_12 2 rfl rfl ?_
  refine b_sipush hO dX3_readBoth_13 ic_s_1600 ?_
  refine b_icmp_ge hO dX3_readBoth_16 (tgt := 64) (by decide) ?_ ?_
  · refine b_iconst hO dX3_readBoth_64 ic_i_1 ?_
    exact b_zretc hO (Or.inr rfl) dX3_readBoth_65
  · refine b_aload_n hO dX3_readBoth_19 0 rfl rfl ?_
    refine b_get hO flX3_15 kLX_2 (v := .ref (ad 3)) rfl dX3_readBoth_20 ?_
    refine b_get hO flX3_30 kLX_3 (v := .int (gI _ 386)) rfl dX3_readBoth_23 ?_
    refine b_sipush hO dX3_readBoth_26 ic_s_280 ?_
    refine b_icmp_ne hO dX3_readBoth_29 (tgt := 64) (by decide) ?_ ?_
    · refine b_iconst hO dX3_readBoth_64 ic_i_1 ?_
      exact b_zretc hO (Or.inr rfl) dX3_readBoth_65
    · refine b_aload_n hO dX3_readBoth_32 0 rfl rfl ?_
      refine b_get hO flX3_15 kLX_2 (v := .ref (ad 3)) rfl dX3_readBoth_33 ?_
      refine b_callVV hO mdX8_advance mvX8_advance w848 (ci := 8) rfl rfl (by decide) kLX_3 (As := []) (st := []) (ctX8_advance n0 hO.2.2.2.2.2.2.1 _) (by omega) rfl rfl (Nat.le_of_ble_eq_true rfl) dX3_readBoth_36 (fun z36 => ?_)
      refine b_aload_n hO dX3_readBoth_39 0 rfl rfl ?_
      refine b_iload_n hO dX3_readBoth_40 1 rfl rfl ?_
      refine b_callVI hO mdX3_readFact mvX3_readFact w876 (ci := 3) rfl rfl (by decide) kLX_2 (As := [.int _]) (st := []) (hrec.2.2.2.2.2.2.2.1 _ _) (by omega) rfl rfl (Nat.le_of_ble_eq_true rfl) dX3_readBoth_41 (fun z41 => ?_)
      refine b_if_ne hO dX3_readBoth_44 (tgt := 49) (by decide) ?_ ?_
      · refine b_aload_n hO dX3_readBoth_49 0 rfl rfl ?_
        refine b_getR hO flX3_19 kLX_2 (id := 257) rfl rfl (rk := 0) rfl (by decide) dX3_readBoth_50 (fun hg1 => ?_)
        refine b_bipush hO dX3_readBoth_53 ic_b_m18 ?_
        refine b_callVV hO mdX0_add mvX0_add w844 (ci := 0) rfl rfl (by decide) hg1 (As := [.int _]) (st := []) (ctX0_add n0 _ hg1 hO.2.2.2.2.2.2.1 _ _) (by omega) rfl rfl (Nat.le_of_ble_eq_true rfl) dX3_readBoth_55 (fun z55 => ?_)
        refine b_iinc hO dX3_readBoth_58 2 rfl ic_i_1 (by decide) (lv' := [(2, .int _), (0, .ref _), (1, .int _)]) rfl ?_
        refine b_goto hO dX3_readBoth_61 (tgt := 12) (by decide) ?_
        refine b_sub [1, 2, 0] rfl ?_
        exact hk12 _ _ _
      · refine b_iconst hO dX3_readBoth_47 ic_i_0 ?_
        exact b_zretc hO (Or.inl rfl) dX3_readBoth_48
theorem lX3_readBoth_12 (n0 : Nat) (rec : Nat → Int32 → Int32 → Mem → Option (Int32 × Mem)) (hO : OKc p (rmL (5 + dd + 1)) s m args meth c LX D cy ad cX3_readBoth RX3 3 (5 + dd + 1) (some .boolean)) (hrec : recOK l LX D cy ad 5 dd rec) : ∀ (w : Nat) (x1 : Int32) (x2 : Int32) (M : Mem), BL p l e (rmL (5 + dd + 1)) s m args below meth c LX D cy ad 3 (QI LX D cy ad) 12 [(0, .ref (ad 2)), (1, .int x1), (2, .int x2)] [] M (loopN (bX3_readBoth_12 n0 rec) (fun _ _ _ => none) w x1 x2 M) := by
  intro w
  induction w with
  | zero =>
    intros
    exact b_none
  | succ w ih =>
    intro x1 x2 M
    exact tbX3_readBoth_12 n0 rec hO hrec _ ih x1 x2 M
theorem tfX3_readBoth_12 (n0 : Nat) (rec : Nat → Int32 → Int32 → Mem → Option (Int32 × Mem)) (hO : OKc p (rmL (5 + dd + 1)) s m args meth c LX D cy ad cX3_readBoth RX3 3 (5 + dd + 1) (some .boolean)) (hrec : recOK l LX D cy ad 5 dd rec) (x1 : Int32) (x2 : Int32) (M : Mem) : BL p l e (rmL (5 + dd + 1)) s m args below meth c LX D cy ad 3 (QI LX D cy ad) 12 [(0, .ref (ad 2)), (1, .int x1), (2, .int x2)] [] M (fX3_readBoth_12 n0 rec x1 x2 M) := lX3_readBoth_12 n0 rec hO hrec n0 x1 x2 M
theorem tfX3_readBoth (n0 : Nat) (rec : Nat → Int32 → Int32 → Mem → Option (Int32 × Mem)) (hO : OKc p (rmL (5 + dd + 1)) s m args meth c LX D cy ad cX3_readBoth RX3 3 (5 + dd + 1) (some .boolean)) (hrec : recOK l LX D cy ad 5 dd rec) (x1 : Int32) (M : Mem) : BL p l e (rmL (5 + dd + 1)) s m args below meth c LX D cy ad 3 (QI LX D cy ad) 0 [(0, .ref (ad 2)), (1, .int x1)] [] M (fX3_readBoth n0 rec x1 M) := by
  unfold fX3_readBoth
  refine b_aload_n hO dX3_readBoth_0 0 rfl rfl ?_
  refine b_iload_n hO dX3_readBoth_1 1 rfl rfl ?_
  refine b_callVI hO mdX3_readFact mvX3_readFact w876 (ci := 3) rfl rfl (by decide) kLX_2 (As := [.int _]) (st := []) (hrec.2.2.2.2.2.2.2.1 _ _) (by omega) rfl rfl (Nat.le_of_ble_eq_true rfl) dX3_readBoth_2 (fun z2 => ?_)
  refine b_if_ne hO dX3_readBoth_5 (tgt := 10) (by decide) ?_ ?_
  · refine b_iconst hO dX3_readBoth_10 ic_i_0 ?_
    refine b_istore_n hO dX3_readBoth_11 rfl (by decide) (lv' := [(2, .int _), (0, .ref _), (1, .int _)]) rfl ?_
    refine b_sub [1, 2, 0] rfl ?_
    exact tfX3_readBoth_12 n0 rec hO hrec _ _ _
  · refine b_iconst hO dX3_readBoth_8 ic_i_0 ?_
    exact b_zretc hO (Or.inl rfl) dX3_readBoth_9
theorem ctX3_readBoth (n0 : Nat) (rec : Nat → Int32 → Int32 → Mem → Option (Int32 × Mem)) (hI : Inj LX ad) (hrec : recOK l LX D cy ad 5 dd rec) (x1 : Int32) (M : Mem) : CT l LX D cy ad yX3_readBoth cX3_readBoth 3 (some .boolean) (5 + dd + 1) (QI LX D cy ad) [.ref (ad 2), .int x1] M (fX3_readBoth n0 rec x1 M) :=
  CT.mk LXok hI (by decide) (Nat.le_of_ble_eq_true rfl) (fun hO => tfX3_readBoth n0 rec hO hrec x1 M)
/-! X3_readFact -/
def fX3_readFact (n0 : Nat) (rec : Nat → Int32 → Int32 → Mem → Option (Int32 × Mem)) (x1 : Int32) (M : Mem) : Option (Int32 × Mem) :=
  if (gI M 386) = 91 then
    (fX3_goIn n0 (91 : Int32) x1 M).bind fun z88 =>
    if z88.1 = 0 then
      some ((0 : Int32), z88.2)
    else
      (rec 5 (x1 + (1 : Int32)) (0 : Int32) z88.2).bind fun z98 =>
      if z98.1 = 0 then
        some ((0 : Int32), z98.2)
      else
        (fX8_skip n0 (93 : Int32) z98.2).bind fun z110 =>
        if z110.1 = 0 then
          some ((0 : Int32), z110.2)
        else
          some ((1 : Int32), z110.2)
  else
  if (gI M 386) = 281 then
    (fX3_goIn n0 (281 : Int32) x1 M).bind fun z45 =>
    if z45.1 = 0 then
      some ((0 : Int32), z45.2)
    else
      (rec 7 (x1 + (1 : Int32)) (0 : Int32) z45.2).bind fun z55 =>
      if z55.1 = 0 then
        some ((0 : Int32), z55.2)
      else
        (fX3_add n0 (0 : Int32) z55.2).bind fun z63 =>
        if z63.1 = 0 then
          some ((0 : Int32), z63.2)
        else
          (fX3_add n0 (-17 : Int32) z63.2).bind fun z72 =>
          if z72.1 = 0 then
            some ((0 : Int32), z72.2)
          else
            some ((1 : Int32), z72.2)
  else
  if (gI M 386) = 282 then
    (fX3_addAndAdvance n0 (1 : Int32) M).bind fun z124 =>
    if z124.1 = 0 ∨ z124.1 = 1 then some (z124.1, z124.2) else none
  else
  (rec 8 x1 (0 : Int32) M).bind fun z130 =>
  if z130.1 = 0 ∨ z130.1 = 1 then some (z130.1, z130.2) else none
theorem tfX3_readFact (n0 : Nat) (rec : Nat → Int32 → Int32 → Mem → Option (Int32 × Mem)) (hO : OKc p (rmL (5 + dd + 1)) s m args meth c LX D cy ad cX3_readFact RX3 2 (5 + dd + 1) (some .boolean)) (hrec : recOK l LX D cy ad 5 dd rec) (x1 : Int32) (M : Mem) : BL p l e (rmL (5 + dd + 1)) s m args below meth c LX D cy ad 2 (QI LX D cy ad) 0 [(0, .ref (ad 2)), (1, .int x1)] [] M (fX3_readFact n0 rec x1 M) := by
  unfold fX3_readFact
  refine b_aload_n hO dX3_readFact_0 0 rfl rfl ?_
  refine b_get hO flX3_15 kLX_2 (v := .ref (ad 3)) rfl dX3_readFact_1 ?_
  refine b_get hO flX3_30 kLX_3 (v := .int (gI _ 386)) rfl dX3_readFact_4 ?_
  refine b_lookIn hO dX3_readFact_7 (v := 91) (z := 91) (tgt := 84) (by decide) (by decide) rfl (by decide) ?_ (fun hn0 => ?_)
  · refine b_aload_n hO dX3_readFact_84 0 rfl rfl ?_
    refine b_bipush hO dX3_readFact_85 ic_b_91 ?_
    refine b_iload_n hO dX3_readFact_87 1 rfl rfl ?_
    refine b_callVI hO mdX3_goIn mvX3_goIn w854 (ci := 3) rfl rfl (by decide) kLX_2 (As := [.int _, .int _]) (st := []) (ctX3_goIn n0 hO.2.2.2.2.2.2.1 _ _ _) (by omega) rfl rfl (Nat.le_of_ble_eq_true rfl) dX3_readFact_88 (fun z88 => ?_)
    refine b_if_eq hO dX3_readFact_91 (tgt := 120) (by decide) ?_ ?_
    · refine b_iconst hO dX3_readFact_120 ic_i_0 ?_
      exact b_zretc hO (Or.inl rfl) dX3_readFact_121
    · refine b_aload_n hO dX3_readFact_94 0 rfl rfl ?_
      refine b_iload_n hO dX3_readFact_95 1 rfl rfl ?_
      refine b_iconst hO dX3_readFact_96 ic_i_1 ?_
      refine b_iadd hO dX3_readFact_97 ?_
      refine b_callVI hO mdX3_readTest mvX3_readTest w868 (ci := 3) rfl rfl (by decide) kLX_2 (As := [.int _]) (st := []) (hrec.2.2.2.2.2.1 _ _) (by omega) rfl rfl (Nat.le_of_ble_eq_true rfl) dX3_readFact_98 (fun z98 => ?_)
      refine b_if_eq hO dX3_readFact_101 (tgt := 120) (by decide) ?_ ?_
      · refine b_iconst hO dX3_readFact_120 ic_i_0 ?_
        exact b_zretc hO (Or.inl rfl) dX3_readFact_121
      · refine b_aload_n hO dX3_readFact_104 0 rfl rfl ?_
        refine b_get hO flX3_15 kLX_2 (v := .ref (ad 3)) rfl dX3_readFact_105 ?_
        refine b_bipush hO dX3_readFact_108 ic_b_93 ?_
        refine b_callVI hO mdX8_skip mvX8_skip w859 (ci := 8) rfl rfl (by decide) kLX_3 (As := [.int _]) (st := []) (ctX8_skip n0 hO.2.2.2.2.2.2.1 _ _) (by omega) rfl rfl (Nat.le_of_ble_eq_true rfl) dX3_readFact_110 (fun z110 => ?_)
        refine b_if_eq hO dX3_readFact_113 (tgt := 120) (by decide) ?_ ?_
        · refine b_iconst hO dX3_readFact_120 ic_i_0 ?_
          exact b_zretc hO (Or.inl rfl) dX3_readFact_121
        · refine b_iconst hO dX3_readFact_116 ic_i_1 ?_
          refine b_goto hO dX3_readFact_117 (tgt := 121) (by decide) ?_
          exact b_zretc hO (Or.inr rfl) dX3_readFact_121
  refine b_lookIn hO dX3_readFact_7 (v := 281) (z := 281) (tgt := 40) (by decide) (by decide) rfl (by decide) ?_ (fun hn1 => ?_)
  · refine b_aload_n hO dX3_readFact_40 0 rfl rfl ?_
    refine b_sipush hO dX3_readFact_41 ic_s_281 ?_
    refine b_iload_n hO dX3_readFact_44 1 rfl rfl ?_
    refine b_callVI hO mdX3_goIn mvX3_goIn w854 (ci := 3) rfl rfl (by decide) kLX_2 (As := [.int _, .int _]) (st := []) (ctX3_goIn n0 hO.2.2.2.2.2.2.1 _ _ _) (by omega) rfl rfl (Nat.le_of_ble_eq_true rfl) dX3_readFact_45 (fun z45 => ?_)
    refine b_if_eq hO dX3_readFact_48 (tgt := 82) (by decide) ?_ ?_
    · refine b_iconst hO dX3_readFact_82 ic_i_0 ?_
      exact b_zretc hO (Or.inl rfl) dX3_readFact_83
    · refine b_aload_n hO dX3_readFact_51 0 rfl rfl ?_
      refine b_iload_n hO dX3_readFact_52 1 rfl rfl ?_
      refine b_iconst hO dX3_readFact_53 ic_i_1 ?_
      refine b_iadd hO dX3_readFact_54 ?_
      refine b_callVI hO mdX3_readFact mvX3_readFact w876 (ci := 3) rfl rfl (by decide) kLX_2 (As := [.int _]) (st := []) (hrec.2.2.2.2.2.2.2.1 _ _) (by omega) rfl rfl (Nat.le_of_ble_eq_true rfl) dX3_readFact_55 (fun z55 => ?_)
      refine b_if_eq hO dX3_readFact_58 (tgt := 82) (by decide) ?_ ?_
      · refine b_iconst hO dX3_readFact_82 ic_i_0 ?_
        exact b_zretc hO (Or.inl rfl) dX3_readFact_83
      · refine b_aload_n hO dX3_readFact_61 0 rfl rfl ?_
        refine b_iconst hO dX3_readFact_62 ic_i_0 ?_
        refine b_callVI hO mdX3_add mvX3_add w860 (ci := 3) rfl rfl (by decide) kLX_2 (As := [.int _]) (st := []) (ctX3_add n0 hO.2.2.2.2.2.2.1 _ _) (by omega) rfl rfl (Nat.le_of_ble_eq_true rfl) dX3_readFact_63 (fun z63 => ?_)
        refine b_if_eq hO dX3_readFact_66 (tgt := 82) (by decide) ?_ ?_
        · refine b_iconst hO dX3_readFact_82 ic_i_0 ?_
          exact b_zretc hO (Or.inl rfl) dX3_readFact_83
        · refine b_aload_n hO dX3_readFact_69 0 rfl rfl ?_
          refine b_bipush hO dX3_readFact_70 ic_b_m17 ?_
          refine b_callVI hO mdX3_add mvX3_add w860 (ci := 3) rfl rfl (by decide) kLX_2 (As := [.int _]) (st := []) (ctX3_add n0 hO.2.2.2.2.2.2.1 _ _) (by omega) rfl rfl (Nat.le_of_ble_eq_true rfl) dX3_readFact_72 (fun z72 => ?_)
          refine b_if_eq hO dX3_readFact_75 (tgt := 82) (by decide) ?_ ?_
          · refine b_iconst hO dX3_readFact_82 ic_i_0 ?_
            exact b_zretc hO (Or.inl rfl) dX3_readFact_83
          · refine b_iconst hO dX3_readFact_78 ic_i_1 ?_
            refine b_goto hO dX3_readFact_79 (tgt := 83) (by decide) ?_
            exact b_zretc hO (Or.inr rfl) dX3_readFact_83
  refine b_lookIn hO dX3_readFact_7 (v := 282) (z := 282) (tgt := 122) (by decide) (by decide) rfl (by decide) ?_ (fun hn2 => ?_)
  · refine b_aload_n hO dX3_readFact_122 0 rfl rfl ?_
    refine b_iconst hO dX3_readFact_123 ic_i_1 ?_
    refine b_callVI hO mdX3_addAndAdvance mvX3_addAndAdvance w840 (ci := 3) rfl rfl (by decide) kLX_2 (As := [.int _]) (st := []) (ctX3_addAndAdvance n0 hO.2.2.2.2.2.2.1 _ _) (by omega) rfl rfl (Nat.le_of_ble_eq_true rfl) dX3_readFact_124 (fun z124 => ?_)
    exact b_zret hO dX3_readFact_127
  refine b_lookOut hO dX3_readFact_7 (tgt := 128) (by decide) (by rw [lv_osw hn0 (by decide)]; rw [lv_osw hn1 (by decide)]; rw [lv_osw hn2 (by decide)]; rfl) (by decide) ?_
  refine b_aload_n hO dX3_readFact_128 0 rfl rfl ?_
  refine b_iload_n hO dX3_readFact_129 1 rfl rfl ?_
  refine b_callVI hO mdX3_readComparison mvX3_readComparison w880 (ci := 3) rfl rfl (by decide) kLX_2 (As := [.int _]) (st := []) (hrec.2.2.2.2.2.2.2.2 _ _) (by omega) rfl rfl (Nat.le_of_ble_eq_true rfl) dX3_readFact_130 (fun z130 => ?_)
  exact b_zret hO dX3_readFact_133
theorem ctX3_readFact (n0 : Nat) (rec : Nat → Int32 → Int32 → Mem → Option (Int32 × Mem)) (hI : Inj LX ad) (hrec : recOK l LX D cy ad 5 dd rec) (x1 : Int32) (M : Mem) : CT l LX D cy ad yX3_readFact cX3_readFact 2 (some .boolean) (5 + dd + 1) (QI LX D cy ad) [.ref (ad 2), .int x1] M (fX3_readFact n0 rec x1 M) :=
  CT.mk LXok hI (by decide) (Nat.le_of_ble_eq_true rfl) (fun hO => tfX3_readFact n0 rec hO hrec x1 M)
/-! X3_readComparison -/
def fX3_readComparison (n0 : Nat) (rec : Nat → Int32 → Int32 → Mem → Option (Int32 × Mem)) (x1 : Int32) (M : Mem) : Option (Int32 × Mem) :=
  (rec 0 x1 (0 : Int32) M).bind fun z2 =>
  if z2.1 = 0 then
    some ((0 : Int32), z2.2)
  else
    (fX3_comparisonStep n0 z2.2).bind fun z11 =>
    if z11.1 = 0 then
      (fX8_failHere n0 z11.2).bind fun z23 =>
      if z23.1 = 0 ∨ z23.1 = 1 then some (z23.1, z23.2) else none
    else
      (fX8_advance n0 z11.2).bind fun z31 =>
      (rec 0 x1 (0 : Int32) z31).bind fun z36 =>
      if z36.1 = 0 then
        some ((0 : Int32), z36.2)
      else
        (fX3_add n0 z11.1 z36.2).bind fun z44 =>
        if z44.1 = 0 then
          some ((0 : Int32), z44.2)
        else
          some ((1 : Int32), z44.2)
theorem tfX3_readComparison (n0 : Nat) (rec : Nat → Int32 → Int32 → Mem → Option (Int32 × Mem)) (hO : OKc p (rmL (5 + dd + 1)) s m args meth c LX D cy ad cX3_readComparison RX3 3 (5 + dd + 1) (some .boolean)) (hrec : recOK l LX D cy ad 5 dd rec) (x1 : Int32) (M : Mem) : BL p l e (rmL (5 + dd + 1)) s m args below meth c LX D cy ad 3 (QI LX D cy ad) 0 [(0, .ref (ad 2)), (1, .int x1)] [] M (fX3_readComparison n0 rec x1 M) := by
  unfold fX3_readComparison
  refine b_aload_n hO dX3_readComparison_0 0 rfl rfl ?_
  refine b_iload_n hO dX3_readComparison_1 1 rfl rfl ?_
  refine b_callVI hO mdX3_readSum mvX3_readSum w828 (ci := 3) rfl rfl (by decide) kLX_2 (As := [.int _]) (st := []) (hrec.1 _ _) (by omega) rfl rfl (Nat.le_of_ble_eq_true rfl) dX3_readComparison_2 (fun z2 => ?_)
  refine b_if_ne hO dX3_readComparison_5 (tgt := 10) (by decide) ?_ ?_
  · refine b_aload_n hO dX3_readComparison_10 0 rfl rfl ?_
    refine b_callVI hO mdX3_comparisonStep mvX3_comparisonStep w884 (ci := 3) rfl rfl (by decide) kLX_2 (As := []) (st := []) (ctX3_comparisonStep n0 hO.2.2.2.2.2.2.1 _) (by omega) rfl rfl (Nat.le_of_ble_eq_true rfl) dX3_readComparison_11 (fun z11 => ?_)
    refine b_istore_n hO dX3_readComparison_14 rfl (by decide) (lv' := [(2, .int _), (0, .ref _), (1, .int _)]) rfl ?_
    refine b_iload_n hO dX3_readComparison_15 0 rfl rfl ?_
    refine b_if_ne hO dX3_readComparison_16 (tgt := 27) (by decide) ?_ ?_
    · refine b_aload_n hO dX3_readComparison_27 1 rfl rfl ?_
      refine b_get hO flX3_15 kLX_2 (v := .ref (ad 3)) rfl dX3_readComparison_28 ?_
      refine b_callVV hO mdX8_advance mvX8_advance w848 (ci := 8) rfl rfl (by decide) kLX_3 (As := []) (st := []) (ctX8_advance n0 hO.2.2.2.2.2.2.1 _) (by omega) rfl rfl (Nat.le_of_ble_eq_true rfl) dX3_readComparison_31 (fun z31 => ?_)
      refine b_aload_n hO dX3_readComparison_34 1 rfl rfl ?_
      refine b_iload_n hO dX3_readComparison_35 2 rfl rfl ?_
      refine b_callVI hO mdX3_readSum mvX3_readSum w828 (ci := 3) rfl rfl (by decide) kLX_2 (As := [.int _]) (st := []) (hrec.1 _ _) (by omega) rfl rfl (Nat.le_of_ble_eq_true rfl) dX3_readComparison_36 (fun z36 => ?_)
      refine b_if_eq hO dX3_readComparison_39 (tgt := 54) (by decide) ?_ ?_
      · refine b_iconst hO dX3_readComparison_54 ic_i_0 ?_
        exact b_zretc hO (Or.inl rfl) dX3_readComparison_55
      · refine b_aload_n hO dX3_readComparison_42 1 rfl rfl ?_
        refine b_iload_n hO dX3_readComparison_43 0 rfl rfl ?_
        refine b_callVI hO mdX3_add mvX3_add w860 (ci := 3) rfl rfl (by decide) kLX_2 (As := [.int _]) (st := []) (ctX3_add n0 hO.2.2.2.2.2.2.1 _ _) (by omega) rfl rfl (Nat.le_of_ble_eq_true rfl) dX3_readComparison_44 (fun z44 => ?_)
        refine b_if_eq hO dX3_readComparison_47 (tgt := 54) (by decide) ?_ ?_
        · refine b_iconst hO dX3_readComparison_54 ic_i_0 ?_
          exact b_zretc hO (Or.inl rfl) dX3_readComparison_55
        · refine b_iconst hO dX3_readComparison_50 ic_i_1 ?_
          refine b_goto hO dX3_readComparison_51 (tgt := 55) (by decide) ?_
          exact b_zretc hO (Or.inr rfl) dX3_readComparison_55
    · refine b_aload_n hO dX3_readComparison_19 1 rfl rfl ?_
      refine b_get hO flX3_15 kLX_2 (v := .ref (ad 3)) rfl dX3_readComparison_20 ?_
      refine b_callVI hO mdX8_failHere mvX8_failHere w849 (ci := 8) rfl rfl (by decide) kLX_3 (As := []) (st := []) (ctX8_failHere n0 hO.2.2.2.2.2.2.1 _) (by omega) rfl rfl (Nat.le_of_ble_eq_true rfl) dX3_readComparison_23 (fun z23 => ?_)
      exact b_zret hO dX3_readComparison_26
  · refine b_iconst hO dX3_readComparison_8 ic_i_0 ?_
    exact b_zretc hO (Or.inl rfl) dX3_readComparison_9
theorem ctX3_readComparison (n0 : Nat) (rec : Nat → Int32 → Int32 → Mem → Option (Int32 × Mem)) (hI : Inj LX ad) (hrec : recOK l LX D cy ad 5 dd rec) (x1 : Int32) (M : Mem) : CT l LX D cy ad yX3_readComparison cX3_readComparison 3 (some .boolean) (5 + dd + 1) (QI LX D cy ad) [.ref (ad 2), .int x1] M (fX3_readComparison n0 rec x1 M) :=
  CT.mk LXok hI (by decide) (Nat.le_of_ble_eq_true rfl) (fun hO => tfX3_readComparison n0 rec hO hrec x1 M)
def recX3F (n0 : Nat) (rec : Nat → Int32 → Int32 → Mem → Option (Int32 × Mem)) (t : Nat) (a b : Int32) (M : Mem) : Option (Int32 × Mem) := if t = 0 then fX3_readSum n0 rec a M else if t = 1 then fX3_readProduct n0 rec a M else if t = 2 then fX3_readPart n0 rec a M else if t = 3 then fX3_readPair n0 rec a b M else if t = 4 then fX3_readChoice n0 rec a M else if t = 5 then fX3_readTest n0 rec a M else if t = 6 then fX3_readBoth n0 rec a M else if t = 7 then fX3_readFact n0 rec a M else if t = 8 then fX3_readComparison n0 rec a M else none
def recX3 (n0 : Nat) : Nat → Nat → Int32 → Int32 → Mem → Option (Int32 × Mem) := loopN (recX3F n0) (fun _ _ _ _ => none)
theorem recX3_ok (n0 : Nat) (hI : Inj LX ad) : ∀ d, recOK l LX D cy ad 5 d (recX3 n0 d)
  | 0 => ⟨fun _ _ => (fun _ h => by cases h), fun _ _ => (fun _ h => by cases h), fun _ _ => (fun _ h => by cases h), fun _ _ _ => (fun _ h => by cases h), fun _ _ => (fun _ h => by cases h), fun _ _ => (fun _ h => by cases h), fun _ _ => (fun _ h => by cases h), fun _ _ => (fun _ h => by cases h), fun _ _ => (fun _ h => by cases h)⟩
  | d + 1 => by
    have ih := recX3_ok n0 hI d
    exact ⟨fun a M => ctX3_readSum n0 (recX3 n0 d) hI ih a M, fun a M => ctX3_readProduct n0 (recX3 n0 d) hI ih a M, fun a M => ctX3_readPart n0 (recX3 n0 d) hI ih a M, fun a b M => ctX3_readPair n0 (recX3 n0 d) hI ih a b M, fun a M => ctX3_readChoice n0 (recX3 n0 d) hI ih a M, fun a M => ctX3_readTest n0 (recX3 n0 d) hI ih a M, fun a M => ctX3_readBoth n0 (recX3 n0 d) hI ih a M, fun a M => ctX3_readFact n0 (recX3 n0 d) hI ih a M, fun a M => ctX3_readComparison n0 (recX3 n0 d) hI ih a M⟩
/-! X3_readSays -/
def fX3_readSays (n0 : Nat) (q1 : Nat) (M : Mem) : Option (Int32 × Mem) :=
  bnd (sR M 257 q1) fun M2 =>
  bnd (sI M2 258 (0 : Int32)) fun M7 =>
  (recX3 n0 100 0 (0 : Int32) (0 : Int32) M7).bind fun z12 =>
  if z12.1 = 0 ∨ z12.1 = 1 then some (z12.1, z12.2) else none
theorem tfX3_readSays (n0 : Nat) (q1 : Nat) (hq1 : isK LX q1 0) (hO : OKc p (rmL 106) s m args meth c LX D cy ad cX3_readSays RX3 2 106 (some .boolean)) (M : Mem) : BL p l e (rmL 106) s m args below meth c LX D cy ad 2 (QI LX D cy ad) 0 [(0, .ref (ad 2)), (1, .ref (ad q1))] [] M (fX3_readSays n0 q1 M) := by
  unfold fX3_readSays
  refine b_aload_n hO dX3_readSays_0 0 rfl rfl ?_
  refine b_aload_n hO dX3_readSays_1 1 rfl rfl ?_
  refine b_putR hO flX3_19 kLX_2 rfl (id := 257) rfl hq1 rfl rfl dX3_readSays_2 ?_
  refine b_bnd (fun M2 => ?_)
  refine b_aload_n hO dX3_readSays_5 0 rfl rfl ?_
  refine b_iconst hO dX3_readSays_6 ic_i_0 ?_
  refine b_putZc hO flX3_9 kLX_2 rfl rfl rfl (id := 258) rfl (Or.inl rfl) dX3_readSays_7 ?_
  refine b_bnd (fun M7 => ?_)
  refine b_aload_n hO dX3_readSays_10 0 rfl rfl ?_
  refine b_iconst hO dX3_readSays_11 ic_i_0 ?_
  refine b_callVI hO mdX3_readSum mvX3_readSum w828 (ci := 3) rfl rfl (by decide) kLX_2 (As := [.int _]) (st := []) ((recX3_ok n0 hO.2.2.2.2.2.2.1 100).1 _ _) (Nat.le_of_ble_eq_true rfl) rfl rfl (Nat.le_of_ble_eq_true rfl) dX3_readSays_12 (fun z12 => ?_)
  exact b_zret hO dX3_readSays_15
theorem ctX3_readSays (n0 : Nat) (q1 : Nat) (hq1 : isK LX q1 0) (hI : Inj LX ad) (M : Mem) : CT l LX D cy ad yX3_readSays cX3_readSays 2 (some .boolean) 106 (QI LX D cy ad) [.ref (ad 2), .ref (ad q1)] M (fX3_readSays n0 q1 M) :=
  CT.mk LXok hI (by decide) (Nat.le_of_ble_eq_true rfl) (fun hO => tfX3_readSays n0 q1 hq1 hO M)
/-! X3_readGone -/
def fX3_readGone (n0 : Nat) (q1 : Nat) (M : Mem) : Option (Int32 × Mem) :=
  bnd (sR M 257 q1) fun M2 =>
  bnd (sI M2 258 (1 : Int32)) fun M7 =>
  (recX3 n0 100 5 (0 : Int32) (0 : Int32) M7).bind fun z12 =>
  if z12.1 = 0 ∨ z12.1 = 1 then some (z12.1, z12.2) else none
theorem tfX3_readGone (n0 : Nat) (q1 : Nat) (hq1 : isK LX q1 0) (hO : OKc p (rmL 106) s m args meth c LX D cy ad cX3_readGone RX3 2 106 (some .boolean)) (M : Mem) : BL p l e (rmL 106) s m args below meth c LX D cy ad 2 (QI LX D cy ad) 0 [(0, .ref (ad 2)), (1, .ref (ad q1))] [] M (fX3_readGone n0 q1 M) := by
  unfold fX3_readGone
  refine b_aload_n hO dX3_readGone_0 0 rfl rfl ?_
  refine b_aload_n hO dX3_readGone_1 1 rfl rfl ?_
  refine b_putR hO flX3_19 kLX_2 rfl (id := 257) rfl hq1 rfl rfl dX3_readGone_2 ?_
  refine b_bnd (fun M2 => ?_)
  refine b_aload_n hO dX3_readGone_5 0 rfl rfl ?_
  refine b_iconst hO dX3_readGone_6 ic_i_1 ?_
  refine b_putZc hO flX3_9 kLX_2 rfl rfl rfl (id := 258) rfl (Or.inr rfl) dX3_readGone_7 ?_
  refine b_bnd (fun M7 => ?_)
  refine b_aload_n hO dX3_readGone_10 0 rfl rfl ?_
  refine b_iconst hO dX3_readGone_11 ic_i_0 ?_
  refine b_callVI hO mdX3_readTest mvX3_readTest w868 (ci := 3) rfl rfl (by decide) kLX_2 (As := [.int _]) (st := []) ((recX3_ok n0 hO.2.2.2.2.2.2.1 100).2.2.2.2.2.1 _ _) (Nat.le_of_ble_eq_true rfl) rfl rfl (Nat.le_of_ble_eq_true rfl) dX3_readGone_12 (fun z12 => ?_)
  exact b_zret hO dX3_readGone_15
theorem ctX3_readGone (n0 : Nat) (q1 : Nat) (hq1 : isK LX q1 0) (hI : Inj LX ad) (M : Mem) : CT l LX D cy ad yX3_readGone cX3_readGone 2 (some .boolean) 106 (QI LX D cy ad) [.ref (ad 2), .ref (ad q1)] M (fX3_readGone n0 q1 M) :=
  CT.mk LXok hI (by decide) (Nat.le_of_ble_eq_true rfl) (fun hO => tfX3_readGone n0 q1 hq1 hO M)
end
end
section
section
variable {p : Program} {l : Launch} {e : Env} {s : State} {m : MethodId} {args : Array Value} {below : List Frame} {meth : Method} {c : Code} {D : va_G} {cy : Nat → ClassId} {ad : Nat → Nat} {dd : Nat}

/-! X5_read -/
def fX5_read_74 (n0 : Nat) (q2 : Nat) (k33 : Int32 → Int32 → Mem → Option (Int32 × Mem)) (x3 : Int32) (x4 : Int32) (u0 : Int32) (M : Mem) : Option (Int32 × Mem) :=
  if u0 = 0 then
    some ((0 : Int32), M)
  else
    (fX7_at n0 (((3 : Int32) * x4) + (2 : Int32)) M).bind fun z88 =>
    if z88.1 ≤ (23 : Int32) then
      k33 x3 (x4 + (1 : Int32)) z88.2
    else
      some ((0 : Int32), z88.2)
def fX5_read_73 (n0 : Nat) (q2 : Nat) (k33 : Int32 → Int32 → Mem → Option (Int32 × Mem)) (x3 : Int32) (x4 : Int32) (M : Mem) : Option (Int32 × Mem) :=
  fX5_read_74 n0 q2 k33 x3 x4 (0 : Int32) M
def bX5_read_107 (n0 : Nat) (q2 : Nat) (k107 : Int32 → Int32 → Mem → Option (Int32 × Mem)) (x3 : Int32) (x4 : Int32) (M : Mem) : Option (Int32 × Mem) :=
  if x3 ≤ x4 then
    bnd (sI M 2688 x3) fun M170 =>
    some ((1 : Int32), M170)
  else
    (fX7_at n0 ((3 : Int32) * x4) M).bind fun z124 =>
    if oob x4 16 then none else
    bnd (sA z124.2 22 (Int32.toNatClampNeg x4) z124.1) fun M127 =>
    (fX7_at n0 (((3 : Int32) * x4) + (1 : Int32)) M127).bind fun z141 =>
    if oob x4 16 then none else
    bnd (sA z141.2 23 (Int32.toNatClampNeg x4) z141.1) fun M144 =>
    (fX7_at n0 (((3 : Int32) * x4) + (2 : Int32)) M144).bind fun z158 =>
    if oob x4 16 then none else
    bnd (sA z158.2 24 (Int32.toNatClampNeg x4) z158.1) fun M161 =>
    k107 x3 (x4 + (1 : Int32)) M161
def fX5_read_107 (n0 : Nat) (q2 : Nat) : Int32 → Int32 → Mem → Option (Int32 × Mem) := loopN (bX5_read_107 n0 q2) (fun _ _ _ => none) n0
def bX5_read_33 (n0 : Nat) (q2 : Nat) (k33 : Int32 → Int32 → Mem → Option (Int32 × Mem)) (x3 : Int32) (x4 : Int32) (M : Mem) : Option (Int32 × Mem) :=
  if x3 ≤ x4 then
    fX5_read_107 n0 q2 x3 (0 : Int32) M
  else
    (fX7_at n0 ((3 : Int32) * x4) M).bind fun z44 =>
    if (40 : Int32) < z44.1 then
      fX5_read_73 n0 q2 k33 x3 x4 z44.2
    else
      (fX7_at n0 (((3 : Int32) * x4) + (1 : Int32)) z44.2).bind fun z60 =>
      (fX9_isCorner n0 q2 z60.1 z60.2).bind fun z63 =>
      if z63.1 = 0 then
        fX5_read_73 n0 q2 k33 x3 x4 z63.2
      else
        fX5_read_74 n0 q2 k33 x3 x4 (1 : Int32) z63.2
def fX5_read_33 (n0 : Nat) (q2 : Nat) : Int32 → Int32 → Mem → Option (Int32 × Mem) := loopN (bX5_read_33 n0 q2) (fun _ _ _ => none) n0
def fX5_read (n0 : Nat) (q2 : Nat) (M : Mem) : Option (Int32 × Mem) :=
  if (3 : Int32) = 0 then none else
  bnd ((gI M 641) / (3 : Int32)) fun x3_6 =>
  if x3_6 < (1 : Int32) then
    some ((0 : Int32), M)
  else
    if (16 : Int32) < x3_6 then
      some ((0 : Int32), M)
    else
      if (gI M 641) = ((3 : Int32) * x3_6) then
        fX5_read_33 n0 q2 x3_6 (0 : Int32) M
      else
        some ((0 : Int32), M)
theorem tfX5_read_74 (n0 : Nat) (q2 : Nat) (hq2 : isK LX q2 9) (hO : OKc p (rmL 2) s m args meth c LX D cy ad cX5_read RX5 6 2 (some .boolean)) (k33 : Int32 → Int32 → Mem → Option (Int32 × Mem)) (hk33 : ∀ (x3 : Int32) (x4 : Int32) (M : Mem), BL p l e (rmL 2) s m args below meth c LX D cy ad 6 (QI LX D cy ad) 33 [(0, .ref (ad 21)), (1, .ref (ad 5)), (2, .ref (ad q2)), (3, .int x3), (4, .int x4)] [] M (k33 x3 x4 M)) (x3 : Int32) (x4 : Int32) (u0 : Int32) (M : Mem) : BL p l e (rmL 2) s m args below meth c LX D cy ad 6 (QI LX D cy ad) 74 [(0, .ref (ad 21)), (1, .ref (ad 5)), (2, .ref (ad q2)), (3, .int x3), (4, .int x4)] [.int u0] M (fX5_read_74 n0 q2 k33 x3 x4 u0 M) := by
  unfold fX5_read_74
  refine b_istore hO dX5_read_74 (by decide) (lv' := [(5, .int _), (0, .ref _), (1, .ref _), (2, .ref _), (3, .int _), (4, .int _)]) rfl ?_
  refine b_iload hO dX5_read_76 0 rfl ?_
  refine b_if_eq hO dX5_read_78 (tgt := 96) (by decide) ?_ ?_
  · refine b_iconst hO dX5_read_96 ic_i_0 ?_
    exact b_zretc hO (Or.inl rfl) dX5_read_97
  · refine b_aload_n hO dX5_read_81 2 rfl rfl ?_
    refine b_iconst hO dX5_read_82 ic_i_3 ?_
    refine b_iload hO dX5_read_83 5 rfl ?_
    refine b_imul hO dX5_read_85 ?_
    refine b_iconst hO dX5_read_86 ic_i_2 ?_
    refine b_iadd hO dX5_read_87 ?_
    refine b_callVI hO mdX7_at mvX7_at w1092 (ci := 7) rfl rfl (by decide) kLX_5 (As := [.int _]) (st := []) (ctX7_at n0 hO.2.2.2.2.2.2.1 _ _) (Nat.le_of_ble_eq_true rfl) rfl rfl (Nat.le_of_ble_eq_true rfl) dX5_read_88 (fun z88 => ?_)
    refine b_bipush hO dX5_read_91 ic_b_23 ?_
    refine b_icmp_le hO dX5_read_93 (tgt := 98) (by decide) ?_ ?_
    · refine b_iinc hO dX5_read_98 5 rfl ic_i_1 (by decide) (lv' := [(4, .int _), (5, .int _), (0, .ref _), (1, .ref _), (2, .ref _), (3, .int _)]) rfl ?_
      refine b_goto hO dX5_read_101 (tgt := 33) (by decide) ?_
      refine b_sub [2, 3, 4, 5, 0] rfl ?_
      exact hk33 _ _ _
    · refine b_iconst hO dX5_read_96 ic_i_0 ?_
      exact b_zretc hO (Or.inl rfl) dX5_read_97
theorem tfX5_read_73 (n0 : Nat) (q2 : Nat) (hq2 : isK LX q2 9) (hO : OKc p (rmL 2) s m args meth c LX D cy ad cX5_read RX5 6 2 (some .boolean)) (k33 : Int32 → Int32 → Mem → Option (Int32 × Mem)) (hk33 : ∀ (x3 : Int32) (x4 : Int32) (M : Mem), BL p l e (rmL 2) s m args below meth c LX D cy ad 6 (QI LX D cy ad) 33 [(0, .ref (ad 21)), (1, .ref (ad 5)), (2, .ref (ad q2)), (3, .int x3), (4, .int x4)] [] M (k33 x3 x4 M)) (x3 : Int32) (x4 : Int32) (M : Mem) : BL p l e (rmL 2) s m args below meth c LX D cy ad 6 (QI LX D cy ad) 73 [(0, .ref (ad 21)), (1, .ref (ad 5)), (2, .ref (ad q2)), (3, .int x3), (4, .int x4)] [] M (fX5_read_73 n0 q2 k33 x3 x4 M) := by
  unfold fX5_read_73
  refine b_iconst hO dX5_read_73 ic_i_0 ?_
  exact tfX5_read_74 n0 q2 hq2 hO k33 hk33 _ _ _ _
theorem tbX5_read_107 (n0 : Nat) (q2 : Nat) (hq2 : isK LX q2 9) (hO : OKc p (rmL 2) s m args meth c LX D cy ad cX5_read RX5 6 2 (some .boolean)) (k107 : Int32 → Int32 → Mem → Option (Int32 × Mem)) (hk107 : ∀ (x3 : Int32) (x4 : Int32) (M : Mem), BL p l e (rmL 2) s m args below meth c LX D cy ad 6 (QI LX D cy ad) 107 [(0, .ref (ad 21)), (1, .ref (ad 5)), (3, .int x3), (4, .int x4)] [] M (k107 x3 x4 M)) (x3 : Int32) (x4 : Int32) (M : Mem) : BL p l e (rmL 2) s m args below meth c LX D cy ad 6 (QI LX D cy ad) 107 [(0, .ref (ad 21)), (1, .ref (ad 5)), (3, .int x3), (4, .int x4)] [] M (bX5_read_107 n0 q2 k107 x3 x4 M) := by
  unfold bX5_read_107
  refine b_iload hO dX5_read_107 3 rfl ?_
  refine b_iload_n hO dX5_read_109 2 rfl rfl ?_
  refine b_icmp_ge hO dX5_read_110 (tgt := 168) (by decide) ?_ ?_
  · refine b_aload_n hO dX5_read_168 0 rfl rfl ?_
    refine b_iload_n hO dX5_read_169 2 rfl rfl ?_
    refine b_putI hO flX5_9 kLX_21 rfl rfl rfl (id := 2688) rfl dX5_read_170 ?_
    refine b_bnd (fun M170 => ?_)
    refine b_iconst hO dX5_read_173 ic_i_1 ?_
    exact b_zretc hO (Or.inr rfl) dX5_read_174
  · refine b_aload_n hO dX5_read_113 0 rfl rfl ?_
    refine b_get hO flX5_15 kLX_21 (v := .ref (ad 22)) rfl dX5_read_114 ?_
    refine b_iload hO dX5_read_117 3 rfl ?_
    refine b_aload_n hO dX5_read_119 1 rfl rfl ?_
    refine b_iconst hO dX5_read_120 ic_i_3 ?_
    refine b_iload hO dX5_read_121 3 rfl ?_
    refine b_imul hO dX5_read_123 ?_
    refine b_callVI hO mdX7_at mvX7_at w1092 (ci := 7) rfl rfl (by decide) kLX_5 (As := [.int _]) (st := [.int _, .ref _]) (ctX7_at n0 hO.2.2.2.2.2.2.1 _ _) (Nat.le_of_ble_eq_true rfl) rfl rfl (Nat.le_of_ble_eq_true rfl) dX5_read_124 (fun z124 => ?_)
    refine b_iast hO kLX_22 (n := 16) rfl dX5_read_127 ?_
    refine b_bnd (fun M127 => ?_)
    refine b_aload_n hO dX5_read_128 0 rfl rfl ?_
    refine b_get hO flX5_19 kLX_21 (v := .ref (ad 23)) rfl dX5_read_129 ?_
    refine b_iload hO dX5_read_132 3 rfl ?_
    refine b_aload_n hO dX5_read_134 1 rfl rfl ?_
    refine b_iconst hO dX5_read_135 ic_i_3 ?_
    refine b_iload hO dX5_read_136 3 rfl ?_
    refine b_imul hO dX5_read_138 ?_
    refine b_iconst hO dX5_read_139 ic_i_1 ?_
    refine b_iadd hO dX5_read_140 ?_
    refine b_callVI hO mdX7_at mvX7_at w1092 (ci := 7) rfl rfl (by decide) kLX_5 (As := [.int _]) (st := [.int _, .ref _]) (ctX7_at n0 hO.2.2.2.2.2.2.1 _ _) (Nat.le_of_ble_eq_true rfl) rfl rfl (Nat.le_of_ble_eq_true rfl) dX5_read_141 (fun z141 => ?_)
    refine b_iast hO kLX_23 (n := 16) rfl dX5_read_144 ?_
    refine b_bnd (fun M144 => ?_)
    refine b_aload_n hO dX5_read_145 0 rfl rfl ?_
    refine b_get hO flX5_22 kLX_21 (v := .ref (ad 24)) rfl dX5_read_146 ?_
    refine b_iload hO dX5_read_149 3 rfl ?_
    refine b_aload_n hO dX5_read_151 1 rfl rfl ?_
    refine b_iconst hO dX5_read_152 ic_i_3 ?_
    refine b_iload hO dX5_read_153 3 rfl ?_
    refine b_imul hO dX5_read_155 ?_
    refine b_iconst hO dX5_read_156 ic_i_2 ?_
    refine b_iadd hO dX5_read_157 ?_
    refine b_callVI hO mdX7_at mvX7_at w1092 (ci := 7) rfl rfl (by decide) kLX_5 (As := [.int _]) (st := [.int _, .ref _]) (ctX7_at n0 hO.2.2.2.2.2.2.1 _ _) (Nat.le_of_ble_eq_true rfl) rfl rfl (Nat.le_of_ble_eq_true rfl) dX5_read_158 (fun z158 => ?_)
    refine b_iast hO kLX_24 (n := 16) rfl dX5_read_161 ?_
    refine b_bnd (fun M161 => ?_)
    refine b_iinc hO dX5_read_162 3 rfl ic_i_1 (by decide) (lv' := [(4, .int _), (0, .ref _), (1, .ref _), (3, .int _)]) rfl ?_
    refine b_goto hO dX5_read_165 (tgt := 107) (by decide) ?_
    refine b_sub [1, 2, 3, 0] rfl ?_
    exact hk107 _ _ _
theorem lX5_read_107 (n0 : Nat) (q2 : Nat) (hq2 : isK LX q2 9) (hO : OKc p (rmL 2) s m args meth c LX D cy ad cX5_read RX5 6 2 (some .boolean)) : ∀ (w : Nat) (x3 : Int32) (x4 : Int32) (M : Mem), BL p l e (rmL 2) s m args below meth c LX D cy ad 6 (QI LX D cy ad) 107 [(0, .ref (ad 21)), (1, .ref (ad 5)), (3, .int x3), (4, .int x4)] [] M (loopN (bX5_read_107 n0 q2) (fun _ _ _ => none) w x3 x4 M) := by
  intro w
  induction w with
  | zero =>
    intros
    exact b_none
  | succ w ih =>
    intro x3 x4 M
    exact tbX5_read_107 n0 q2 hq2 hO _ ih x3 x4 M
theorem tfX5_read_107 (n0 : Nat) (q2 : Nat) (hq2 : isK LX q2 9) (hO : OKc p (rmL 2) s m args meth c LX D cy ad cX5_read RX5 6 2 (some .boolean)) (x3 : Int32) (x4 : Int32) (M : Mem) : BL p l e (rmL 2) s m args below meth c LX D cy ad 6 (QI LX D cy ad) 107 [(0, .ref (ad 21)), (1, .ref (ad 5)), (3, .int x3), (4, .int x4)] [] M (fX5_read_107 n0 q2 x3 x4 M) := lX5_read_107 n0 q2 hq2 hO n0 x3 x4 M
theorem tbX5_read_33 (n0 : Nat) (q2 : Nat) (hq2 : isK LX q2 9) (hO : OKc p (rmL 2) s m args meth c LX D cy ad cX5_read RX5 6 2 (some .boolean)) (k33 : Int32 → Int32 → Mem → Option (Int32 × Mem)) (hk33 : ∀ (x3 : Int32) (x4 : Int32) (M : Mem), BL p l e (rmL 2) s m args below meth c LX D cy ad 6 (QI LX D cy ad) 33 [(0, .ref (ad 21)), (1, .ref (ad 5)), (2, .ref (ad q2)), (3, .int x3), (4, .int x4)] [] M (k33 x3 x4 M)) (x3 : Int32) (x4 : Int32) (M : Mem) : BL p l e (rmL 2) s m args below meth c LX D cy ad 6 (QI LX D cy ad) 33 [(0, .ref (ad 21)), (1, .ref (ad 5)), (2, .ref (ad q2)), (3, .int x3), (4, .int x4)] [] M (bX5_read_33 n0 q2 k33 x3 x4 M) := by
  unfold bX5_read_33
  refine b_iload hO dX5_read_33 4 rfl ?_
  refine b_iload_n hO dX5_read_35 3 rfl rfl ?_
  refine b_icmp_ge hO dX5_read_36 (tgt := 104) (by decide) ?_ ?_
  · refine b_iconst hO dX5_read_104 ic_i_0 ?_
    refine b_istore hO dX5_read_105 (by decide) (lv' := [(4, .int _), (0, .ref _), (1, .ref _), (2, .ref _), (3, .int _)]) rfl ?_
    refine b_sub [1, 2, 4, 0] rfl ?_
    exact tfX5_read_107 n0 q2 hq2 hO _ _ _
  · refine b_aload_n hO dX5_read_39 1 rfl rfl ?_
    refine b_iconst hO dX5_read_40 ic_i_3 ?_
    refine b_iload hO dX5_read_41 4 rfl ?_
    refine b_imul hO dX5_read_43 ?_
    refine b_callVI hO mdX7_at mvX7_at w1092 (ci := 7) rfl rfl (by decide) kLX_5 (As := [.int _]) (st := []) (ctX7_at n0 hO.2.2.2.2.2.2.1 _ _) (Nat.le_of_ble_eq_true rfl) rfl rfl (Nat.le_of_ble_eq_true rfl) dX5_read_44 (fun z44 => ?_)
    refine b_bipush hO dX5_read_47 ic_b_40 ?_
    refine b_icmp_gt hO dX5_read_49 (tgt := 73) (by decide) ?_ ?_
    · exact tfX5_read_73 n0 q2 hq2 hO k33 hk33 _ _ _
    · refine b_aload_n hO dX5_read_52 2 rfl rfl ?_
      refine b_aload_n hO dX5_read_53 1 rfl rfl ?_
      refine b_iconst hO dX5_read_54 ic_i_3 ?_
      refine b_iload hO dX5_read_55 4 rfl ?_
      refine b_imul hO dX5_read_57 ?_
      refine b_iconst hO dX5_read_58 ic_i_1 ?_
      refine b_iadd hO dX5_read_59 ?_
      refine b_callVI hO mdX7_at mvX7_at w1092 (ci := 7) rfl rfl (by decide) kLX_5 (As := [.int _]) (st := [.ref _]) (ctX7_at n0 hO.2.2.2.2.2.2.1 _ _) (Nat.le_of_ble_eq_true rfl) rfl rfl (Nat.le_of_ble_eq_true rfl) dX5_read_60 (fun z60 => ?_)
      refine b_callVI hO mdX9_isCorner mvX9_isCorner w1093 (ci := 9) rfl rfl (by decide) hq2 (As := [.int _]) (st := []) (ctX9_isCorner n0 _ hq2 hO.2.2.2.2.2.2.1 _ _) (Nat.le_of_ble_eq_true rfl) rfl rfl (Nat.le_of_ble_eq_true rfl) dX5_read_63 (fun z63 => ?_)
      refine b_if_eq hO dX5_read_66 (tgt := 73) (by decide) ?_ ?_
      · exact tfX5_read_73 n0 q2 hq2 hO k33 hk33 _ _ _
      · refine b_iconst hO dX5_read_69 ic_i_1 ?_
        refine b_goto hO dX5_read_70 (tgt := 74) (by decide) ?_
        exact tfX5_read_74 n0 q2 hq2 hO k33 hk33 _ _ _ _
theorem lX5_read_33 (n0 : Nat) (q2 : Nat) (hq2 : isK LX q2 9) (hO : OKc p (rmL 2) s m args meth c LX D cy ad cX5_read RX5 6 2 (some .boolean)) : ∀ (w : Nat) (x3 : Int32) (x4 : Int32) (M : Mem), BL p l e (rmL 2) s m args below meth c LX D cy ad 6 (QI LX D cy ad) 33 [(0, .ref (ad 21)), (1, .ref (ad 5)), (2, .ref (ad q2)), (3, .int x3), (4, .int x4)] [] M (loopN (bX5_read_33 n0 q2) (fun _ _ _ => none) w x3 x4 M) := by
  intro w
  induction w with
  | zero =>
    intros
    exact b_none
  | succ w ih =>
    intro x3 x4 M
    exact tbX5_read_33 n0 q2 hq2 hO _ ih x3 x4 M
theorem tfX5_read_33 (n0 : Nat) (q2 : Nat) (hq2 : isK LX q2 9) (hO : OKc p (rmL 2) s m args meth c LX D cy ad cX5_read RX5 6 2 (some .boolean)) (x3 : Int32) (x4 : Int32) (M : Mem) : BL p l e (rmL 2) s m args below meth c LX D cy ad 6 (QI LX D cy ad) 33 [(0, .ref (ad 21)), (1, .ref (ad 5)), (2, .ref (ad q2)), (3, .int x3), (4, .int x4)] [] M (fX5_read_33 n0 q2 x3 x4 M) := lX5_read_33 n0 q2 hq2 hO n0 x3 x4 M
theorem tfX5_read (n0 : Nat) (q2 : Nat) (hq2 : isK LX q2 9) (hO : OKc p (rmL 2) s m args meth c LX D cy ad cX5_read RX5 6 2 (some .boolean)) (M : Mem) : BL p l e (rmL 2) s m args below meth c LX D cy ad 6 (QI LX D cy ad) 0 [(0, .ref (ad 21)), (1, .ref (ad 5)), (2, .ref (ad q2))] [] M (fX5_read n0 q2 M) := by
  unfold fX5_read
  refine b_aload_n hO dX5_read_0 1 rfl rfl ?_
  refine b_get hO flX5_30 kLX_5 (v := .int (gI _ 641)) rfl dX5_read_1 ?_
  refine b_iconst hO dX5_read_4 ic_i_3 ?_
  refine b_idiv hO dX5_read_5 ?_
  refine b_topI (fun x3_6 => ?_)
  refine b_istore_n hO dX5_read_6 rfl (by decide) (lv' := [(3, .int _), (0, .ref _), (1, .ref _), (2, .ref _)]) rfl ?_
  refine b_iload_n hO dX5_read_7 0 rfl rfl ?_
  refine b_iconst hO dX5_read_8 ic_i_1 ?_
  refine b_icmp_lt hO dX5_read_9 (tgt := 28) (by decide) ?_ ?_
  · refine b_iconst hO dX5_read_28 ic_i_0 ?_
    exact b_zretc hO (Or.inl rfl) dX5_read_29
  · refine b_iload_n hO dX5_read_12 0 rfl rfl ?_
    refine b_bipush hO dX5_read_13 ic_b_16 ?_
    refine b_icmp_gt hO dX5_read_15 (tgt := 28) (by decide) ?_ ?_
    · refine b_iconst hO dX5_read_28 ic_i_0 ?_
      exact b_zretc hO (Or.inl rfl) dX5_read_29
    · refine b_aload_n hO dX5_read_18 2 rfl rfl ?_
      refine b_get hO flX5_30 kLX_5 (v := .int (gI _ 641)) rfl dX5_read_19 ?_
      refine b_iconst hO dX5_read_22 ic_i_3 ?_
      refine b_iload_n hO dX5_read_23 0 rfl rfl ?_
      refine b_imul hO dX5_read_24 ?_
      refine b_icmp_eq hO dX5_read_25 (tgt := 30) (by decide) ?_ ?_
      · refine b_iconst hO dX5_read_30 ic_i_0 ?_
        refine b_istore hO dX5_read_31 (by decide) (lv' := [(4, .int _), (3, .int _), (0, .ref _), (1, .ref _), (2, .ref _)]) rfl ?_
        refine b_sub [2, 3, 4, 1, 0] rfl ?_
        exact tfX5_read_33 n0 q2 hq2 hO _ _ _
      · refine b_iconst hO dX5_read_28 ic_i_0 ?_
        exact b_zretc hO (Or.inl rfl) dX5_read_29
theorem ctX5_read (n0 : Nat) (q2 : Nat) (hq2 : isK LX q2 9) (hI : Inj LX ad) (M : Mem) : CT l LX D cy ad yX5_read cX5_read 6 (some .boolean) 2 (QI LX D cy ad) [.ref (ad 21), .ref (ad 5), .ref (ad q2)] M (fX5_read n0 q2 M) :=
  CT.mk LXok hI (by decide) (Nat.le_of_ble_eq_true rfl) (fun hO => tfX5_read n0 q2 hq2 hO M)
/-! X5_isAbout -/
def bX5_isAbout_2 (n0 : Nat) (k2 : Int32 → Int32 → Mem → Option (Int32 × Mem)) (x1 : Int32) (x2 : Int32) (M : Mem) : Option (Int32 × Mem) :=
  if (gI M 2688) ≤ x2 then
    some ((0 : Int32), M)
  else
    if oob x2 16 then none else
    if (gA M 23 (Int32.toNatClampNeg x2)) = x1 then
      some ((1 : Int32), M)
    else
      k2 x1 (x2 + (1 : Int32)) M
def fX5_isAbout_2 (n0 : Nat) : Int32 → Int32 → Mem → Option (Int32 × Mem) := loopN (bX5_isAbout_2 n0) (fun _ _ _ => none) n0
def fX5_isAbout (n0 : Nat) (x1 : Int32) (M : Mem) : Option (Int32 × Mem) :=
  fX5_isAbout_2 n0 x1 (0 : Int32) M
theorem tbX5_isAbout_2 (n0 : Nat) (hO : OKc p (rmL 1) s m args meth c LX D cy ad cX5_isAbout RX5 3 1 (some .boolean)) (k2 : Int32 → Int32 → Mem → Option (Int32 × Mem)) (hk2 : ∀ (x1 : Int32) (x2 : Int32) (M : Mem), BL p l e (rmL 1) s m args below meth c LX D cy ad 3 (QI LX D cy ad) 2 [(0, .ref (ad 21)), (1, .int x1), (2, .int x2)] [] M (k2 x1 x2 M)) (x1 : Int32) (x2 : Int32) (M : Mem) : BL p l e (rmL 1) s m args below meth c LX D cy ad 3 (QI LX D cy ad) 2 [(0, .ref (ad 21)), (1, .int x1), (2, .int x2)] [] M (bX5_isAbout_2 n0 k2 x1 x2 M) := by
  unfold bX5_isAbout_2
  refine b_iload_n hO dX5_isAbout_2 2 rfl rfl ?_
  refine b_aload_n hO dX5_isAbout_3 0 rfl rfl ?_
  refine b_get hO flX5_9 kLX_21 (v := .int (gI _ 2688)) rfl dX5_isAbout_4 ?_
  refine b_icmp_ge hO dX5_isAbout_7 (tgt := 28) (by decide) ?_ ?_
  · refine b_iconst hO dX5_isAbout_28 ic_i_0 ?_
    exact b_zretc hO (Or.inl rfl) dX5_isAbout_29
  · refine b_aload_n hO dX5_isAbout_10 0 rfl rfl ?_
    refine b_get hO flX5_19 kLX_21 (v := .ref (ad 23)) rfl dX5_isAbout_11 ?_
    refine b_iload_n hO dX5_isAbout_14 2 rfl rfl ?_
    refine b_iald hO kLX_23 (n := 16) rfl dX5_isAbout_15 ?_
    refine b_iload_n hO dX5_isAbout_16 1 rfl rfl ?_
    refine b_icmp_ne hO dX5_isAbout_17 (tgt := 22) (by decide) ?_ ?_
    · refine b_iinc hO dX5_isAbout_22 2 rfl ic_i_1 (by decide) (lv' := [(2, .int _), (0, .ref _), (1, .int _)]) rfl ?_
      refine b_goto hO dX5_isAbout_25 (tgt := 2) (by decide) ?_
      refine b_sub [1, 2, 0] rfl ?_
      exact hk2 _ _ _
    · refine b_iconst hO dX5_isAbout_20 ic_i_1 ?_
      exact b_zretc hO (Or.inr rfl) dX5_isAbout_21
theorem lX5_isAbout_2 (n0 : Nat) (hO : OKc p (rmL 1) s m args meth c LX D cy ad cX5_isAbout RX5 3 1 (some .boolean)) : ∀ (w : Nat) (x1 : Int32) (x2 : Int32) (M : Mem), BL p l e (rmL 1) s m args below meth c LX D cy ad 3 (QI LX D cy ad) 2 [(0, .ref (ad 21)), (1, .int x1), (2, .int x2)] [] M (loopN (bX5_isAbout_2 n0) (fun _ _ _ => none) w x1 x2 M) := by
  intro w
  induction w with
  | zero =>
    intros
    exact b_none
  | succ w ih =>
    intro x1 x2 M
    exact tbX5_isAbout_2 n0 hO _ ih x1 x2 M
theorem tfX5_isAbout_2 (n0 : Nat) (hO : OKc p (rmL 1) s m args meth c LX D cy ad cX5_isAbout RX5 3 1 (some .boolean)) (x1 : Int32) (x2 : Int32) (M : Mem) : BL p l e (rmL 1) s m args below meth c LX D cy ad 3 (QI LX D cy ad) 2 [(0, .ref (ad 21)), (1, .int x1), (2, .int x2)] [] M (fX5_isAbout_2 n0 x1 x2 M) := lX5_isAbout_2 n0 hO n0 x1 x2 M
theorem tfX5_isAbout (n0 : Nat) (hO : OKc p (rmL 1) s m args meth c LX D cy ad cX5_isAbout RX5 3 1 (some .boolean)) (x1 : Int32) (M : Mem) : BL p l e (rmL 1) s m args below meth c LX D cy ad 3 (QI LX D cy ad) 0 [(0, .ref (ad 21)), (1, .int x1)] [] M (fX5_isAbout n0 x1 M) := by
  unfold fX5_isAbout
  refine b_iconst hO dX5_isAbout_0 ic_i_0 ?_
  refine b_istore_n hO dX5_isAbout_1 rfl (by decide) (lv' := [(2, .int _), (0, .ref _), (1, .int _)]) rfl ?_
  refine b_sub [1, 2, 0] rfl ?_
  exact tfX5_isAbout_2 n0 hO _ _ _
theorem ctX5_isAbout (n0 : Nat) (hI : Inj LX ad) (x1 : Int32) (M : Mem) : CT l LX D cy ad yX5_isAbout cX5_isAbout 3 (some .boolean) 1 (QI LX D cy ad) [.ref (ad 21), .int x1] M (fX5_isAbout n0 x1 M) :=
  CT.mk LXok hI (by decide) (Nat.le_of_ble_eq_true rfl) (fun hO => tfX5_isAbout n0 hO x1 M)
/-! X5_isSo -/
def fX5_isSo_79 (n0 : Nat) (q2 : Nat) (k3 : Int32 → Int32 → Int32 → Mem → Option (Int32 × Mem)) (x1 : Int32) (x3 : Int32) (x4 : Int32) (M : Mem) : Option (Int32 × Mem) :=
  k3 x1 x3 (x4 + (1 : Int32)) M
def fX5_isSo_51 (n0 : Nat) (q2 : Nat) (k3 : Int32 → Int32 → Int32 → Mem → Option (Int32 × Mem)) (x1 : Int32) (x3 : Int32) (x4 : Int32) (u0 : Int32) (M : Mem) : Option (Int32 × Mem) :=
  if u0 = 0 then
    some ((0 : Int32), M)
  else
    if oob x4 16 then none else
    if oob (gA M 22 (Int32.toNatClampNeg x4)) (LX.ln q2) then none else
    if oob x4 16 then none else
    if (gA M q2 (Int32.toNatClampNeg (gA M 22 (Int32.toNatClampNeg x4)))) = (gA M 24 (Int32.toNatClampNeg x4)) then
      fX5_isSo_79 n0 q2 k3 x1 x3 x4 M
    else
      some ((0 : Int32), M)
def fX5_isSo_50 (n0 : Nat) (q2 : Nat) (k3 : Int32 → Int32 → Int32 → Mem → Option (Int32 × Mem)) (x1 : Int32) (x3 : Int32) (x4 : Int32) (M : Mem) : Option (Int32 × Mem) :=
  fX5_isSo_51 n0 q2 k3 x1 x3 x4 (0 : Int32) M
def bX5_isSo_3 (n0 : Nat) (q2 : Nat) (k3 : Int32 → Int32 → Int32 → Mem → Option (Int32 × Mem)) (x1 : Int32) (x3 : Int32) (x4 : Int32) (M : Mem) : Option (Int32 × Mem) :=
  if (gI M 2688) ≤ x4 then
    some ((1 : Int32), M)
  else
    if oob x4 16 then none else
    if (gA M 23 (Int32.toNatClampNeg x4)) = x1 then
      if oob x4 16 then none else
      if x3 < (gA M 22 (Int32.toNatClampNeg x4)) then
        fX5_isSo_50 n0 q2 k3 x1 x3 x4 M
      else
        if oob x4 16 then none else
        if (Int32.ofNat (LX.ln q2)) ≤ (gA M 22 (Int32.toNatClampNeg x4)) then
          fX5_isSo_50 n0 q2 k3 x1 x3 x4 M
        else
          fX5_isSo_51 n0 q2 k3 x1 x3 x4 (1 : Int32) M
    else
      fX5_isSo_79 n0 q2 k3 x1 x3 x4 M
def fX5_isSo_3 (n0 : Nat) (q2 : Nat) : Int32 → Int32 → Int32 → Mem → Option (Int32 × Mem) := loopN (bX5_isSo_3 n0 q2) (fun _ _ _ _ => none) n0
def fX5_isSo (n0 : Nat) (q2 : Nat) (x1 : Int32) (x3 : Int32) (M : Mem) : Option (Int32 × Mem) :=
  fX5_isSo_3 n0 q2 x1 x3 (0 : Int32) M
theorem tfX5_isSo_79 (n0 : Nat) (q2 : Nat) (hq2 : isK LX q2 13) (hO : OKc p (rmL 1) s m args meth c LX D cy ad cX5_isSo RX5 6 1 (some .boolean)) (k3 : Int32 → Int32 → Int32 → Mem → Option (Int32 × Mem)) (hk3 : ∀ (x1 : Int32) (x3 : Int32) (x4 : Int32) (M : Mem), BL p l e (rmL 1) s m args below meth c LX D cy ad 6 (QI LX D cy ad) 3 [(0, .ref (ad 21)), (1, .int x1), (2, .ref (ad q2)), (3, .int x3), (4, .int x4)] [] M (k3 x1 x3 x4 M)) (x1 : Int32) (x3 : Int32) (x4 : Int32) (M : Mem) : BL p l e (rmL 1) s m args below meth c LX D cy ad 6 (QI LX D cy ad) 79 [(0, .ref (ad 21)), (1, .int x1), (2, .ref (ad q2)), (3, .int x3), (4, .int x4)] [] M (fX5_isSo_79 n0 q2 k3 x1 x3 x4 M) := by
  unfold fX5_isSo_79
  refine b_iinc hO dX5_isSo_79 4 rfl ic_i_1 (by decide) (lv' := [(4, .int _), (0, .ref _), (1, .int _), (2, .ref _), (3, .int _)]) rfl ?_
  refine b_goto hO dX5_isSo_82 (tgt := 3) (by decide) ?_
  refine b_sub [1, 2, 3, 4, 0] rfl ?_
  exact hk3 _ _ _ _
theorem tfX5_isSo_51 (n0 : Nat) (q2 : Nat) (hq2 : isK LX q2 13) (hO : OKc p (rmL 1) s m args meth c LX D cy ad cX5_isSo RX5 6 1 (some .boolean)) (k3 : Int32 → Int32 → Int32 → Mem → Option (Int32 × Mem)) (hk3 : ∀ (x1 : Int32) (x3 : Int32) (x4 : Int32) (M : Mem), BL p l e (rmL 1) s m args below meth c LX D cy ad 6 (QI LX D cy ad) 3 [(0, .ref (ad 21)), (1, .int x1), (2, .ref (ad q2)), (3, .int x3), (4, .int x4)] [] M (k3 x1 x3 x4 M)) (x1 : Int32) (x3 : Int32) (x4 : Int32) (u0 : Int32) (M : Mem) : BL p l e (rmL 1) s m args below meth c LX D cy ad 6 (QI LX D cy ad) 51 [(0, .ref (ad 21)), (1, .int x1), (2, .ref (ad q2)), (3, .int x3), (4, .int x4)] [.int u0] M (fX5_isSo_51 n0 q2 k3 x1 x3 x4 u0 M) := by
  unfold fX5_isSo_51
  refine b_istore hO dX5_isSo_51 (by decide) (lv' := [(5, .int _), (0, .ref _), (1, .int _), (2, .ref _), (3, .int _), (4, .int _)]) rfl ?_
  refine b_iload hO dX5_isSo_53 0 rfl ?_
  refine b_if_eq hO dX5_isSo_55 (tgt := 77) (by decide) ?_ ?_
  · refine b_iconst hO dX5_isSo_77 ic_i_0 ?_
    exact b_zretc hO (Or.inl rfl) dX5_isSo_78
  · refine b_aload_n hO dX5_isSo_58 3 rfl rfl ?_
    refine b_aload_n hO dX5_isSo_59 1 rfl rfl ?_
    refine b_get hO flX5_15 kLX_21 (v := .ref (ad 22)) rfl dX5_isSo_60 ?_
    refine b_iload hO dX5_isSo_63 5 rfl ?_
    refine b_iald hO kLX_22 (n := 16) rfl dX5_isSo_65 ?_
    refine b_iald hO hq2 (n := (LX.ln q2)) rfl dX5_isSo_66 ?_
    refine b_aload_n hO dX5_isSo_67 1 rfl rfl ?_
    refine b_get hO flX5_22 kLX_21 (v := .ref (ad 24)) rfl dX5_isSo_68 ?_
    refine b_iload hO dX5_isSo_71 5 rfl ?_
    refine b_iald hO kLX_24 (n := 16) rfl dX5_isSo_73 ?_
    refine b_icmp_eq hO dX5_isSo_74 (tgt := 79) (by decide) ?_ ?_
    · refine b_sub [1, 2, 3, 4, 5] rfl ?_
      exact tfX5_isSo_79 n0 q2 hq2 hO k3 hk3 _ _ _ _
    · refine b_iconst hO dX5_isSo_77 ic_i_0 ?_
      exact b_zretc hO (Or.inl rfl) dX5_isSo_78
theorem tfX5_isSo_50 (n0 : Nat) (q2 : Nat) (hq2 : isK LX q2 13) (hO : OKc p (rmL 1) s m args meth c LX D cy ad cX5_isSo RX5 6 1 (some .boolean)) (k3 : Int32 → Int32 → Int32 → Mem → Option (Int32 × Mem)) (hk3 : ∀ (x1 : Int32) (x3 : Int32) (x4 : Int32) (M : Mem), BL p l e (rmL 1) s m args below meth c LX D cy ad 6 (QI LX D cy ad) 3 [(0, .ref (ad 21)), (1, .int x1), (2, .ref (ad q2)), (3, .int x3), (4, .int x4)] [] M (k3 x1 x3 x4 M)) (x1 : Int32) (x3 : Int32) (x4 : Int32) (M : Mem) : BL p l e (rmL 1) s m args below meth c LX D cy ad 6 (QI LX D cy ad) 50 [(0, .ref (ad 21)), (1, .int x1), (2, .ref (ad q2)), (3, .int x3), (4, .int x4)] [] M (fX5_isSo_50 n0 q2 k3 x1 x3 x4 M) := by
  unfold fX5_isSo_50
  refine b_iconst hO dX5_isSo_50 ic_i_0 ?_
  exact tfX5_isSo_51 n0 q2 hq2 hO k3 hk3 _ _ _ _ _
theorem tbX5_isSo_3 (n0 : Nat) (q2 : Nat) (hq2 : isK LX q2 13) (hO : OKc p (rmL 1) s m args meth c LX D cy ad cX5_isSo RX5 6 1 (some .boolean)) (k3 : Int32 → Int32 → Int32 → Mem → Option (Int32 × Mem)) (hk3 : ∀ (x1 : Int32) (x3 : Int32) (x4 : Int32) (M : Mem), BL p l e (rmL 1) s m args below meth c LX D cy ad 6 (QI LX D cy ad) 3 [(0, .ref (ad 21)), (1, .int x1), (2, .ref (ad q2)), (3, .int x3), (4, .int x4)] [] M (k3 x1 x3 x4 M)) (x1 : Int32) (x3 : Int32) (x4 : Int32) (M : Mem) : BL p l e (rmL 1) s m args below meth c LX D cy ad 6 (QI LX D cy ad) 3 [(0, .ref (ad 21)), (1, .int x1), (2, .ref (ad q2)), (3, .int x3), (4, .int x4)] [] M (bX5_isSo_3 n0 q2 k3 x1 x3 x4 M) := by
  unfold bX5_isSo_3
  refine b_iload hO dX5_isSo_3 4 rfl ?_
  refine b_aload_n hO dX5_isSo_5 0 rfl rfl ?_
  refine b_get hO flX5_9 kLX_21 (v := .int (gI _ 2688)) rfl dX5_isSo_6 ?_
  refine b_icmp_ge hO dX5_isSo_9 (tgt := 85) (by decide) ?_ ?_
  · refine b_iconst hO dX5_isSo_85 ic_i_1 ?_
    exact b_zretc hO (Or.inr rfl) dX5_isSo_86
  · refine b_aload_n hO dX5_isSo_12 0 rfl rfl ?_
    refine b_get hO flX5_19 kLX_21 (v := .ref (ad 23)) rfl dX5_isSo_13 ?_
    refine b_iload hO dX5_isSo_16 4 rfl ?_
    refine b_iald hO kLX_23 (n := 16) rfl dX5_isSo_18 ?_
    refine b_iload_n hO dX5_isSo_19 1 rfl rfl ?_
    refine b_icmp_ne hO dX5_isSo_20 (tgt := 79) (by decide) ?_ ?_
    · exact tfX5_isSo_79 n0 q2 hq2 hO k3 hk3 _ _ _ _
    · refine b_aload_n hO dX5_isSo_23 0 rfl rfl ?_
      refine b_get hO flX5_15 kLX_21 (v := .ref (ad 22)) rfl dX5_isSo_24 ?_
      refine b_iload hO dX5_isSo_27 4 rfl ?_
      refine b_iald hO kLX_22 (n := 16) rfl dX5_isSo_29 ?_
      refine b_iload_n hO dX5_isSo_30 3 rfl rfl ?_
      refine b_icmp_gt hO dX5_isSo_31 (tgt := 50) (by decide) ?_ ?_
      · exact tfX5_isSo_50 n0 q2 hq2 hO k3 hk3 _ _ _ _
      · refine b_aload_n hO dX5_isSo_34 0 rfl rfl ?_
        refine b_get hO flX5_15 kLX_21 (v := .ref (ad 22)) rfl dX5_isSo_35 ?_
        refine b_iload hO dX5_isSo_38 4 rfl ?_
        refine b_iald hO kLX_22 (n := 16) rfl dX5_isSo_40 ?_
        refine b_aload_n hO dX5_isSo_41 2 rfl rfl ?_
        refine b_alen hO hq2 rfl dX5_isSo_42 ?_
        refine b_icmp_ge hO dX5_isSo_43 (tgt := 50) (by decide) ?_ ?_
        · exact tfX5_isSo_50 n0 q2 hq2 hO k3 hk3 _ _ _ _
        · refine b_iconst hO dX5_isSo_46 ic_i_1 ?_
          refine b_goto hO dX5_isSo_47 (tgt := 51) (by decide) ?_
          exact tfX5_isSo_51 n0 q2 hq2 hO k3 hk3 _ _ _ _ _
theorem lX5_isSo_3 (n0 : Nat) (q2 : Nat) (hq2 : isK LX q2 13) (hO : OKc p (rmL 1) s m args meth c LX D cy ad cX5_isSo RX5 6 1 (some .boolean)) : ∀ (w : Nat) (x1 : Int32) (x3 : Int32) (x4 : Int32) (M : Mem), BL p l e (rmL 1) s m args below meth c LX D cy ad 6 (QI LX D cy ad) 3 [(0, .ref (ad 21)), (1, .int x1), (2, .ref (ad q2)), (3, .int x3), (4, .int x4)] [] M (loopN (bX5_isSo_3 n0 q2) (fun _ _ _ _ => none) w x1 x3 x4 M) := by
  intro w
  induction w with
  | zero =>
    intros
    exact b_none
  | succ w ih =>
    intro x1 x3 x4 M
    exact tbX5_isSo_3 n0 q2 hq2 hO _ ih x1 x3 x4 M
theorem tfX5_isSo_3 (n0 : Nat) (q2 : Nat) (hq2 : isK LX q2 13) (hO : OKc p (rmL 1) s m args meth c LX D cy ad cX5_isSo RX5 6 1 (some .boolean)) (x1 : Int32) (x3 : Int32) (x4 : Int32) (M : Mem) : BL p l e (rmL 1) s m args below meth c LX D cy ad 6 (QI LX D cy ad) 3 [(0, .ref (ad 21)), (1, .int x1), (2, .ref (ad q2)), (3, .int x3), (4, .int x4)] [] M (fX5_isSo_3 n0 q2 x1 x3 x4 M) := lX5_isSo_3 n0 q2 hq2 hO n0 x1 x3 x4 M
theorem tfX5_isSo (n0 : Nat) (q2 : Nat) (hq2 : isK LX q2 13) (hO : OKc p (rmL 1) s m args meth c LX D cy ad cX5_isSo RX5 6 1 (some .boolean)) (x1 : Int32) (x3 : Int32) (M : Mem) : BL p l e (rmL 1) s m args below meth c LX D cy ad 6 (QI LX D cy ad) 0 [(0, .ref (ad 21)), (1, .int x1), (2, .ref (ad q2)), (3, .int x3)] [] M (fX5_isSo n0 q2 x1 x3 M) := by
  unfold fX5_isSo
  refine b_iconst hO dX5_isSo_0 ic_i_0 ?_
  refine b_istore hO dX5_isSo_1 (by decide) (lv' := [(4, .int _), (0, .ref _), (1, .int _), (2, .ref _), (3, .int _)]) rfl ?_
  refine b_sub [1, 2, 3, 4, 0] rfl ?_
  exact tfX5_isSo_3 n0 q2 hq2 hO _ _ _ _
theorem ctX5_isSo (n0 : Nat) (q2 : Nat) (hq2 : isK LX q2 13) (hI : Inj LX ad) (x1 : Int32) (x3 : Int32) (M : Mem) : CT l LX D cy ad yX5_isSo cX5_isSo 6 (some .boolean) 1 (QI LX D cy ad) [.ref (ad 21), .int x1, .ref (ad q2), .int x3] M (fX5_isSo n0 q2 x1 x3 M) :=
  CT.mk LXok hI (by decide) (Nat.le_of_ble_eq_true rfl) (fun hO => tfX5_isSo n0 q2 hq2 hO x1 x3 M)
/-! X5_noteHours -/
def bX5_noteHours_14 (n0 : Nat) (q2 : Nat) (k14 : Int32 → Int32 → Int32 → Mem → Option (Mem)) (x1 : Int32) (x3 : Int32) (x4 : Int32) (M : Mem) : Option (Mem) :=
  if x3 < x4 then
    some M
  else
    if (40 : Int32) < x4 then
      some M
    else
      if (Int32.ofNat (LX.ln q2)) ≤ x4 then
        some M
      else
        if oob x1 7 then none else
        if oob x4 (LX.ln q2) then none else
        if oob x4 (LX.ln (83 + Int32.toNatClampNeg x1)) then none else
        bnd (sA M (83 + Int32.toNatClampNeg x1) (Int32.toNatClampNeg x4) (gA M q2 (Int32.toNatClampNeg x4))) fun M46 =>
        k14 x1 x3 (x4 + (1 : Int32)) M46
def fX5_noteHours_14 (n0 : Nat) (q2 : Nat) : Int32 → Int32 → Int32 → Mem → Option (Mem) := loopN (bX5_noteHours_14 n0 q2) (fun _ _ _ _ => none) n0
def fX5_noteHours (n0 : Nat) (q2 : Nat) (x1 : Int32) (x3 : Int32) (M : Mem) : Option (Mem) :=
  if x1 < 0 then
    some M
  else
    if x1 < (7 : Int32) then
      fX5_noteHours_14 n0 q2 x1 x3 (0 : Int32) M
    else
      some M
theorem tbX5_noteHours_14 (n0 : Nat) (q2 : Nat) (hq2 : isK LX q2 13) (hO : OKc p (rmL 1) s m args meth c LX D cy ad cX5_noteHours RX5 5 1 none) (k14 : Int32 → Int32 → Int32 → Mem → Option (Mem)) (hk14 : ∀ (x1 : Int32) (x3 : Int32) (x4 : Int32) (M : Mem), BL p l e (rmL 1) s m args below meth c LX D cy ad 5 (QV LX D cy ad) 14 [(0, .ref (ad 21)), (1, .int x1), (2, .ref (ad q2)), (3, .int x3), (4, .int x4)] [] M (k14 x1 x3 x4 M)) (x1 : Int32) (x3 : Int32) (x4 : Int32) (M : Mem) : BL p l e (rmL 1) s m args below meth c LX D cy ad 5 (QV LX D cy ad) 14 [(0, .ref (ad 21)), (1, .int x1), (2, .ref (ad q2)), (3, .int x3), (4, .int x4)] [] M (bX5_noteHours_14 n0 q2 k14 x1 x3 x4 M) := by
  unfold bX5_noteHours_14
  refine b_iload hO dX5_noteHours_14 4 rfl ?_
  refine b_iload_n hO dX5_noteHours_16 3 rfl rfl ?_
  refine b_icmp_gt hO dX5_noteHours_17 (tgt := 53) (by decide) ?_ ?_
  · exact b_vret hO dX5_noteHours_53
  · refine b_iload hO dX5_noteHours_20 4 rfl ?_
    refine b_bipush hO dX5_noteHours_22 ic_b_40 ?_
    refine b_icmp_gt hO dX5_noteHours_24 (tgt := 53) (by decide) ?_ ?_
    · exact b_vret hO dX5_noteHours_53
    · refine b_iload hO dX5_noteHours_27 4 rfl ?_
      refine b_aload_n hO dX5_noteHours_29 2 rfl rfl ?_
      refine b_alen hO hq2 rfl dX5_noteHours_30 ?_
      refine b_icmp_ge hO dX5_noteHours_31 (tgt := 53) (by decide) ?_ ?_
      · exact b_vret hO dX5_noteHours_53
      · refine b_aload_n hO dX5_noteHours_34 0 rfl rfl ?_
        refine b_get hO flX5_27 kLX_21 (v := .ref (ad 25)) rfl dX5_noteHours_35 ?_
        refine b_iload_n hO dX5_noteHours_38 1 rfl rfl ?_
        refine b_aald hO kLX_25 (n := 7) rfl (b := 83) rfl dX5_noteHours_39 kg_25 (fun hg1 => ?_)
        refine b_iload hO dX5_noteHours_40 4 rfl ?_
        refine b_aload_n hO dX5_noteHours_42 2 rfl rfl ?_
        refine b_iload hO dX5_noteHours_43 4 rfl ?_
        refine b_iald hO hq2 (n := (LX.ln q2)) rfl dX5_noteHours_45 ?_
        refine b_iast hO hg1 (n := (LX.ln (83 + Int32.toNatClampNeg x1))) rfl dX5_noteHours_46 ?_
        refine b_bnd (fun M46 => ?_)
        refine b_iinc hO dX5_noteHours_47 4 rfl ic_i_1 (by decide) (lv' := [(4, .int _), (0, .ref _), (1, .int _), (2, .ref _), (3, .int _)]) rfl ?_
        refine b_goto hO dX5_noteHours_50 (tgt := 14) (by decide) ?_
        refine b_sub [1, 2, 3, 4, 0] rfl ?_
        exact hk14 _ _ _ _
theorem lX5_noteHours_14 (n0 : Nat) (q2 : Nat) (hq2 : isK LX q2 13) (hO : OKc p (rmL 1) s m args meth c LX D cy ad cX5_noteHours RX5 5 1 none) : ∀ (w : Nat) (x1 : Int32) (x3 : Int32) (x4 : Int32) (M : Mem), BL p l e (rmL 1) s m args below meth c LX D cy ad 5 (QV LX D cy ad) 14 [(0, .ref (ad 21)), (1, .int x1), (2, .ref (ad q2)), (3, .int x3), (4, .int x4)] [] M (loopN (bX5_noteHours_14 n0 q2) (fun _ _ _ _ => none) w x1 x3 x4 M) := by
  intro w
  induction w with
  | zero =>
    intros
    exact b_none
  | succ w ih =>
    intro x1 x3 x4 M
    exact tbX5_noteHours_14 n0 q2 hq2 hO _ ih x1 x3 x4 M
theorem tfX5_noteHours_14 (n0 : Nat) (q2 : Nat) (hq2 : isK LX q2 13) (hO : OKc p (rmL 1) s m args meth c LX D cy ad cX5_noteHours RX5 5 1 none) (x1 : Int32) (x3 : Int32) (x4 : Int32) (M : Mem) : BL p l e (rmL 1) s m args below meth c LX D cy ad 5 (QV LX D cy ad) 14 [(0, .ref (ad 21)), (1, .int x1), (2, .ref (ad q2)), (3, .int x3), (4, .int x4)] [] M (fX5_noteHours_14 n0 q2 x1 x3 x4 M) := lX5_noteHours_14 n0 q2 hq2 hO n0 x1 x3 x4 M
theorem tfX5_noteHours (n0 : Nat) (q2 : Nat) (hq2 : isK LX q2 13) (hO : OKc p (rmL 1) s m args meth c LX D cy ad cX5_noteHours RX5 5 1 none) (x1 : Int32) (x3 : Int32) (M : Mem) : BL p l e (rmL 1) s m args below meth c LX D cy ad 5 (QV LX D cy ad) 0 [(0, .ref (ad 21)), (1, .int x1), (2, .ref (ad q2)), (3, .int x3)] [] M (fX5_noteHours n0 q2 x1 x3 M) := by
  unfold fX5_noteHours
  refine b_iload_n hO dX5_noteHours_0 1 rfl rfl ?_
  refine b_if_lt hO dX5_noteHours_1 (tgt := 10) (by decide) ?_ ?_
  · exact b_vret hO dX5_noteHours_10
  · refine b_iload_n hO dX5_noteHours_4 1 rfl rfl ?_
    refine b_bipush hO dX5_noteHours_5 ic_b_7 ?_
    refine b_icmp_lt hO dX5_noteHours_7 (tgt := 11) (by decide) ?_ ?_
    · refine b_iconst hO dX5_noteHours_11 ic_i_0 ?_
      refine b_istore hO dX5_noteHours_12 (by decide) (lv' := [(4, .int _), (0, .ref _), (1, .int _), (2, .ref _), (3, .int _)]) rfl ?_
      refine b_sub [1, 2, 3, 4, 0] rfl ?_
      exact tfX5_noteHours_14 n0 q2 hq2 hO _ _ _ _
    · exact b_vret hO dX5_noteHours_10
theorem ctX5_noteHours (n0 : Nat) (q2 : Nat) (hq2 : isK LX q2 13) (hI : Inj LX ad) (x1 : Int32) (x3 : Int32) (M : Mem) : CT l LX D cy ad yX5_noteHours cX5_noteHours 5 none 1 (QV LX D cy ad) [.ref (ad 21), .int x1, .ref (ad q2), .int x3] M (fX5_noteHours n0 q2 x1 x3 M) :=
  CT.mk LXok hI (by decide) (Nat.le_of_ble_eq_true rfl) (fun hO => tfX5_noteHours n0 q2 hq2 hO x1 x3 M)
/-! X5_mostLeft -/
def fX5_mostLeft_93 (n0 : Nat) (k17 : Int32 → Int32 → Int32 → Int32 → Mem → Option (Int32 × Mem)) (k30 : Int32 → Int32 → Int32 → Int32 → Int32 → Int32 → Mem → Option (Int32 × Mem)) (x1 : Int32) (x2 : Int32) (x3 : Int32) (x4 : Int32) (x5 : Int32) (x6 : Int32) (M : Mem) : Option (Int32 × Mem) :=
  k30 x1 x2 x3 x4 x5 (x6 + (1 : Int32)) M
def fX5_mostLeft_62 (n0 : Nat) (k17 : Int32 → Int32 → Int32 → Int32 → Mem → Option (Int32 × Mem)) (k30 : Int32 → Int32 → Int32 → Int32 → Int32 → Int32 → Mem → Option (Int32 × Mem)) (x1 : Int32) (x2 : Int32) (x3 : Int32) (x4 : Int32) (x5 : Int32) (x6 : Int32) (u0 : Int32) (M : Mem) : Option (Int32 × Mem) :=
  if u0 = 0 then
    fX5_mostLeft_93 n0 k17 k30 x1 x2 x3 x4 x5 x6 M
  else
    if oob x4 7 then none else
    if oob x2 (LX.ln (83 + Int32.toNatClampNeg x4)) then none else
    if oob x6 7 then none else
    if oob x2 (LX.ln (83 + Int32.toNatClampNeg x6)) then none else
    if (gA M (83 + Int32.toNatClampNeg x4) (Int32.toNatClampNeg x2)) = (gA M (83 + Int32.toNatClampNeg x6) (Int32.toNatClampNeg x2)) then
      fX5_mostLeft_93 n0 k17 k30 x1 x2 x3 x4 (x5 + (1 : Int32)) x6 M
    else
      fX5_mostLeft_93 n0 k17 k30 x1 x2 x3 x4 x5 x6 M
def fX5_mostLeft_61 (n0 : Nat) (k17 : Int32 → Int32 → Int32 → Int32 → Mem → Option (Int32 × Mem)) (k30 : Int32 → Int32 → Int32 → Int32 → Int32 → Int32 → Mem → Option (Int32 × Mem)) (x1 : Int32) (x2 : Int32) (x3 : Int32) (x4 : Int32) (x5 : Int32) (x6 : Int32) (M : Mem) : Option (Int32 × Mem) :=
  fX5_mostLeft_62 n0 k17 k30 x1 x2 x3 x4 x5 x6 (0 : Int32) M
def bX5_mostLeft_30 (n0 : Nat) (k17 : Int32 → Int32 → Int32 → Int32 → Mem → Option (Int32 × Mem)) (k30 : Int32 → Int32 → Int32 → Int32 → Int32 → Int32 → Mem → Option (Int32 × Mem)) (x1 : Int32) (x2 : Int32) (x3 : Int32) (x4 : Int32) (x5 : Int32) (x6 : Int32) (M : Mem) : Option (Int32 × Mem) :=
  if (7 : Int32) ≤ x6 then
    bnd (imax x3 x5) fun x3_105 =>
    k17 x1 x2 x3_105 (x4 + (1 : Int32)) M
  else
    if ((x1 >>> (x4 &&& 31)) &&& (1 : Int32)) = (1 : Int32) then
      if ((x1 >>> (x6 &&& 31)) &&& (1 : Int32)) = (1 : Int32) then
        fX5_mostLeft_62 n0 k17 k30 x1 x2 x3 x4 x5 x6 (1 : Int32) M
      else
        fX5_mostLeft_61 n0 k17 k30 x1 x2 x3 x4 x5 x6 M
    else
      fX5_mostLeft_61 n0 k17 k30 x1 x2 x3 x4 x5 x6 M
def fX5_mostLeft_30 (n0 : Nat) (k17 : Int32 → Int32 → Int32 → Int32 → Mem → Option (Int32 × Mem)) : Int32 → Int32 → Int32 → Int32 → Int32 → Int32 → Mem → Option (Int32 × Mem) := loopN (bX5_mostLeft_30 n0 k17) (fun _ _ _ _ _ _ _ => none) n0
def bX5_mostLeft_17 (n0 : Nat) (k17 : Int32 → Int32 → Int32 → Int32 → Mem → Option (Int32 × Mem)) (x1 : Int32) (x2 : Int32) (x3 : Int32) (x4 : Int32) (M : Mem) : Option (Int32 × Mem) :=
  if (7 : Int32) ≤ x4 then
    some (x3, M)
  else
    fX5_mostLeft_30 n0 k17 x1 x2 x3 x4 (0 : Int32) (0 : Int32) M
def fX5_mostLeft_17 (n0 : Nat) : Int32 → Int32 → Int32 → Int32 → Mem → Option (Int32 × Mem) := loopN (bX5_mostLeft_17 n0) (fun _ _ _ _ _ => none) n0
def fX5_mostLeft (n0 : Nat) (x1 : Int32) (x2 : Int32) (M : Mem) : Option (Int32 × Mem) :=
  if x2 < 0 then
    some ((0 : Int32), M)
  else
    if x2 ≤ (40 : Int32) then
      fX5_mostLeft_17 n0 x1 x2 (0 : Int32) (0 : Int32) M
    else
      some ((0 : Int32), M)
theorem tfX5_mostLeft_93 (n0 : Nat) (hO : OKc p (rmL 1) s m args meth c LX D cy ad cX5_mostLeft RX5 8 1 (some .int)) (k17 : Int32 → Int32 → Int32 → Int32 → Mem → Option (Int32 × Mem)) (k30 : Int32 → Int32 → Int32 → Int32 → Int32 → Int32 → Mem → Option (Int32 × Mem)) (hk17 : ∀ (x1 : Int32) (x2 : Int32) (x3 : Int32) (x4 : Int32) (M : Mem), BL p l e (rmL 1) s m args below meth c LX D cy ad 8 (QI LX D cy ad) 17 [(0, .ref (ad 21)), (1, .int x1), (2, .int x2), (3, .int x3), (4, .int x4)] [] M (k17 x1 x2 x3 x4 M)) (hk30 : ∀ (x1 : Int32) (x2 : Int32) (x3 : Int32) (x4 : Int32) (x5 : Int32) (x6 : Int32) (M : Mem), BL p l e (rmL 1) s m args below meth c LX D cy ad 8 (QI LX D cy ad) 30 [(0, .ref (ad 21)), (1, .int x1), (2, .int x2), (3, .int x3), (4, .int x4), (5, .int x5), (6, .int x6)] [] M (k30 x1 x2 x3 x4 x5 x6 M)) (x1 : Int32) (x2 : Int32) (x3 : Int32) (x4 : Int32) (x5 : Int32) (x6 : Int32) (M : Mem) : BL p l e (rmL 1) s m args below meth c LX D cy ad 8 (QI LX D cy ad) 93 [(0, .ref (ad 21)), (1, .int x1), (2, .int x2), (3, .int x3), (4, .int x4), (5, .int x5), (6, .int x6)] [] M (fX5_mostLeft_93 n0 k17 k30 x1 x2 x3 x4 x5 x6 M) := by
  unfold fX5_mostLeft_93
  refine b_iinc hO dX5_mostLeft_93 6 rfl ic_i_1 (by decide) (lv' := [(6, .int _), (0, .ref _), (1, .int _), (2, .int _), (3, .int _), (4, .int _), (5, .int _)]) rfl ?_
  refine b_goto hO dX5_mostLeft_96 (tgt := 30) (by decide) ?_
  refine b_sub [1, 2, 3, 4, 5, 6, 0] rfl ?_
  exact hk30 _ _ _ _ _ _ _
theorem tfX5_mostLeft_62 (n0 : Nat) (hO : OKc p (rmL 1) s m args meth c LX D cy ad cX5_mostLeft RX5 8 1 (some .int)) (k17 : Int32 → Int32 → Int32 → Int32 → Mem → Option (Int32 × Mem)) (k30 : Int32 → Int32 → Int32 → Int32 → Int32 → Int32 → Mem → Option (Int32 × Mem)) (hk17 : ∀ (x1 : Int32) (x2 : Int32) (x3 : Int32) (x4 : Int32) (M : Mem), BL p l e (rmL 1) s m args below meth c LX D cy ad 8 (QI LX D cy ad) 17 [(0, .ref (ad 21)), (1, .int x1), (2, .int x2), (3, .int x3), (4, .int x4)] [] M (k17 x1 x2 x3 x4 M)) (hk30 : ∀ (x1 : Int32) (x2 : Int32) (x3 : Int32) (x4 : Int32) (x5 : Int32) (x6 : Int32) (M : Mem), BL p l e (rmL 1) s m args below meth c LX D cy ad 8 (QI LX D cy ad) 30 [(0, .ref (ad 21)), (1, .int x1), (2, .int x2), (3, .int x3), (4, .int x4), (5, .int x5), (6, .int x6)] [] M (k30 x1 x2 x3 x4 x5 x6 M)) (x1 : Int32) (x2 : Int32) (x3 : Int32) (x4 : Int32) (x5 : Int32) (x6 : Int32) (u0 : Int32) (M : Mem) : BL p l e (rmL 1) s m args below meth c LX D cy ad 8 (QI LX D cy ad) 62 [(0, .ref (ad 21)), (1, .int x1), (2, .int x2), (3, .int x3), (4, .int x4), (5, .int x5), (6, .int x6)] [.int u0] M (fX5_mostLeft_62 n0 k17 k30 x1 x2 x3 x4 x5 x6 u0 M) := by
  unfold fX5_mostLeft_62
  refine b_istore hO dX5_mostLeft_62 (by decide) (lv' := [(7, .int _), (0, .ref _), (1, .int _), (2, .int _), (3, .int _), (4, .int _), (5, .int _), (6, .int _)]) rfl ?_
  refine b_iload hO dX5_mostLeft_64 0 rfl ?_
  refine b_if_eq hO dX5_mostLeft_66 (tgt := 93) (by decide) ?_ ?_
  · refine b_sub [1, 2, 3, 4, 5, 6, 7] rfl ?_
    exact tfX5_mostLeft_93 n0 hO k17 k30 hk17 hk30 _ _ _ _ _ _ _
  · refine b_aload_n hO dX5_mostLeft_69 1 rfl rfl ?_
    refine b_get hO flX5_27 kLX_21 (v := .ref (ad 25)) rfl dX5_mostLeft_70 ?_
    refine b_iload hO dX5_mostLeft_73 5 rfl ?_
    refine b_aald hO kLX_25 (n := 7) rfl (b := 83) rfl dX5_mostLeft_75 kg_25 (fun hg1 => ?_)
    refine b_iload_n hO dX5_mostLeft_76 3 rfl rfl ?_
    refine b_iald hO hg1 (n := (LX.ln (83 + Int32.toNatClampNeg x4))) rfl dX5_mostLeft_77 ?_
    refine b_aload_n hO dX5_mostLeft_78 1 rfl rfl ?_
    refine b_get hO flX5_27 kLX_21 (v := .ref (ad 25)) rfl dX5_mostLeft_79 ?_
    refine b_iload hO dX5_mostLeft_82 7 rfl ?_
    refine b_aald hO kLX_25 (n := 7) rfl (b := 83) rfl dX5_mostLeft_84 kg_25 (fun hg2 => ?_)
    refine b_iload_n hO dX5_mostLeft_85 3 rfl rfl ?_
    refine b_iald hO hg2 (n := (LX.ln (83 + Int32.toNatClampNeg x6))) rfl dX5_mostLeft_86 ?_
    refine b_icmp_ne hO dX5_mostLeft_87 (tgt := 93) (by decide) ?_ ?_
    · refine b_sub [1, 2, 3, 4, 5, 6, 7] rfl ?_
      exact tfX5_mostLeft_93 n0 hO k17 k30 hk17 hk30 _ _ _ _ _ _ _
    · refine b_iinc hO dX5_mostLeft_90 6 rfl ic_i_1 (by decide) (lv' := [(5, .int _), (7, .int _), (0, .ref _), (1, .int _), (2, .int _), (3, .int _), (4, .int _), (6, .int _)]) rfl ?_
      refine b_sub [2, 3, 4, 5, 6, 0, 7] rfl ?_
      exact tfX5_mostLeft_93 n0 hO k17 k30 hk17 hk30 _ _ _ _ _ _ _
theorem tfX5_mostLeft_61 (n0 : Nat) (hO : OKc p (rmL 1) s m args meth c LX D cy ad cX5_mostLeft RX5 8 1 (some .int)) (k17 : Int32 → Int32 → Int32 → Int32 → Mem → Option (Int32 × Mem)) (k30 : Int32 → Int32 → Int32 → Int32 → Int32 → Int32 → Mem → Option (Int32 × Mem)) (hk17 : ∀ (x1 : Int32) (x2 : Int32) (x3 : Int32) (x4 : Int32) (M : Mem), BL p l e (rmL 1) s m args below meth c LX D cy ad 8 (QI LX D cy ad) 17 [(0, .ref (ad 21)), (1, .int x1), (2, .int x2), (3, .int x3), (4, .int x4)] [] M (k17 x1 x2 x3 x4 M)) (hk30 : ∀ (x1 : Int32) (x2 : Int32) (x3 : Int32) (x4 : Int32) (x5 : Int32) (x6 : Int32) (M : Mem), BL p l e (rmL 1) s m args below meth c LX D cy ad 8 (QI LX D cy ad) 30 [(0, .ref (ad 21)), (1, .int x1), (2, .int x2), (3, .int x3), (4, .int x4), (5, .int x5), (6, .int x6)] [] M (k30 x1 x2 x3 x4 x5 x6 M)) (x1 : Int32) (x2 : Int32) (x3 : Int32) (x4 : Int32) (x5 : Int32) (x6 : Int32) (M : Mem) : BL p l e (rmL 1) s m args below meth c LX D cy ad 8 (QI LX D cy ad) 61 [(0, .ref (ad 21)), (1, .int x1), (2, .int x2), (3, .int x3), (4, .int x4), (5, .int x5), (6, .int x6)] [] M (fX5_mostLeft_61 n0 k17 k30 x1 x2 x3 x4 x5 x6 M) := by
  unfold fX5_mostLeft_61
  refine b_iconst hO dX5_mostLeft_61 ic_i_0 ?_
  exact tfX5_mostLeft_62 n0 hO k17 k30 hk17 hk30 _ _ _ _ _ _ _ _
theorem tbX5_mostLeft_30 (n0 : Nat) (hO : OKc p (rmL 1) s m args meth c LX D cy ad cX5_mostLeft RX5 8 1 (some .int)) (k17 : Int32 → Int32 → Int32 → Int32 → Mem → Option (Int32 × Mem)) (k30 : Int32 → Int32 → Int32 → Int32 → Int32 → Int32 → Mem → Option (Int32 × Mem)) (hk17 : ∀ (x1 : Int32) (x2 : Int32) (x3 : Int32) (x4 : Int32) (M : Mem), BL p l e (rmL 1) s m args below meth c LX D cy ad 8 (QI LX D cy ad) 17 [(0, .ref (ad 21)), (1, .int x1), (2, .int x2), (3, .int x3), (4, .int x4)] [] M (k17 x1 x2 x3 x4 M)) (hk30 : ∀ (x1 : Int32) (x2 : Int32) (x3 : Int32) (x4 : Int32) (x5 : Int32) (x6 : Int32) (M : Mem), BL p l e (rmL 1) s m args below meth c LX D cy ad 8 (QI LX D cy ad) 30 [(0, .ref (ad 21)), (1, .int x1), (2, .int x2), (3, .int x3), (4, .int x4), (5, .int x5), (6, .int x6)] [] M (k30 x1 x2 x3 x4 x5 x6 M)) (x1 : Int32) (x2 : Int32) (x3 : Int32) (x4 : Int32) (x5 : Int32) (x6 : Int32) (M : Mem) : BL p l e (rmL 1) s m args below meth c LX D cy ad 8 (QI LX D cy ad) 30 [(0, .ref (ad 21)), (1, .int x1), (2, .int x2), (3, .int x3), (4, .int x4), (5, .int x5), (6, .int x6)] [] M (bX5_mostLeft_30 n0 k17 k30 x1 x2 x3 x4 x5 x6 M) := by
  unfold bX5_mostLeft_30
  refine b_iload hO dX5_mostLeft_30 6 rfl ?_
  refine b_bipush hO dX5_mostLeft_32 ic_b_7 ?_
  refine b_icmp_ge hO dX5_mostLeft_34 (tgt := 99) (by decide) ?_ ?_
  · refine b_iload_n hO dX5_mostLeft_99 3 rfl rfl ?_
    refine b_iload hO dX5_mostLeft_100 5 rfl ?_
    refine b_mmax hO w1123 w594 w136 wm595 (by first | decide | omega) (Nat.le_of_ble_eq_true rfl) dX5_mostLeft_102 ?_
    refine b_topI (fun x3_105 => ?_)
    refine b_istore_n hO dX5_mostLeft_105 rfl (by decide) (lv' := [(3, .int _), (0, .ref _), (1, .int _), (2, .int _), (4, .int _), (5, .int _), (6, .int _)]) rfl ?_
    refine b_iinc hO dX5_mostLeft_106 4 rfl ic_i_1 (by decide) (lv' := [(4, .int _), (3, .int _), (0, .ref _), (1, .int _), (2, .int _), (5, .int _), (6, .int _)]) rfl ?_
    refine b_goto hO dX5_mostLeft_109 (tgt := 17) (by decide) ?_
    refine b_sub [2, 3, 4, 1, 0] rfl ?_
    exact hk17 _ _ _ _ _
  · refine b_iload_n hO dX5_mostLeft_37 1 rfl rfl ?_
    refine b_iload hO dX5_mostLeft_38 4 rfl ?_
    refine b_ishr hO dX5_mostLeft_40 ?_
    refine b_iconst hO dX5_mostLeft_41 ic_i_1 ?_
    refine b_iand hO dX5_mostLeft_42 ?_
    refine b_iconst hO dX5_mostLeft_43 ic_i_1 ?_
    refine b_icmp_ne hO dX5_mostLeft_44 (tgt := 61) (by decide) ?_ ?_
    · exact tfX5_mostLeft_61 n0 hO k17 k30 hk17 hk30 _ _ _ _ _ _ _
    · refine b_iload_n hO dX5_mostLeft_47 1 rfl rfl ?_
      refine b_iload hO dX5_mostLeft_48 6 rfl ?_
      refine b_ishr hO dX5_mostLeft_50 ?_
      refine b_iconst hO dX5_mostLeft_51 ic_i_1 ?_
      refine b_iand hO dX5_mostLeft_52 ?_
      refine b_iconst hO dX5_mostLeft_53 ic_i_1 ?_
      refine b_icmp_ne hO dX5_mostLeft_54 (tgt := 61) (by decide) ?_ ?_
      · exact tfX5_mostLeft_61 n0 hO k17 k30 hk17 hk30 _ _ _ _ _ _ _
      · refine b_iconst hO dX5_mostLeft_57 ic_i_1 ?_
        refine b_goto hO dX5_mostLeft_58 (tgt := 62) (by decide) ?_
        exact tfX5_mostLeft_62 n0 hO k17 k30 hk17 hk30 _ _ _ _ _ _ _ _
theorem lX5_mostLeft_30 (n0 : Nat) (hO : OKc p (rmL 1) s m args meth c LX D cy ad cX5_mostLeft RX5 8 1 (some .int)) (k17 : Int32 → Int32 → Int32 → Int32 → Mem → Option (Int32 × Mem)) (hk17 : ∀ (x1 : Int32) (x2 : Int32) (x3 : Int32) (x4 : Int32) (M : Mem), BL p l e (rmL 1) s m args below meth c LX D cy ad 8 (QI LX D cy ad) 17 [(0, .ref (ad 21)), (1, .int x1), (2, .int x2), (3, .int x3), (4, .int x4)] [] M (k17 x1 x2 x3 x4 M)) : ∀ (w : Nat) (x1 : Int32) (x2 : Int32) (x3 : Int32) (x4 : Int32) (x5 : Int32) (x6 : Int32) (M : Mem), BL p l e (rmL 1) s m args below meth c LX D cy ad 8 (QI LX D cy ad) 30 [(0, .ref (ad 21)), (1, .int x1), (2, .int x2), (3, .int x3), (4, .int x4), (5, .int x5), (6, .int x6)] [] M (loopN (bX5_mostLeft_30 n0 k17) (fun _ _ _ _ _ _ _ => none) w x1 x2 x3 x4 x5 x6 M) := by
  intro w
  induction w with
  | zero =>
    intros
    exact b_none
  | succ w ih =>
    intro x1 x2 x3 x4 x5 x6 M
    exact tbX5_mostLeft_30 n0 hO k17 _ hk17 ih x1 x2 x3 x4 x5 x6 M
theorem tfX5_mostLeft_30 (n0 : Nat) (hO : OKc p (rmL 1) s m args meth c LX D cy ad cX5_mostLeft RX5 8 1 (some .int)) (k17 : Int32 → Int32 → Int32 → Int32 → Mem → Option (Int32 × Mem)) (hk17 : ∀ (x1 : Int32) (x2 : Int32) (x3 : Int32) (x4 : Int32) (M : Mem), BL p l e (rmL 1) s m args below meth c LX D cy ad 8 (QI LX D cy ad) 17 [(0, .ref (ad 21)), (1, .int x1), (2, .int x2), (3, .int x3), (4, .int x4)] [] M (k17 x1 x2 x3 x4 M)) (x1 : Int32) (x2 : Int32) (x3 : Int32) (x4 : Int32) (x5 : Int32) (x6 : Int32) (M : Mem) : BL p l e (rmL 1) s m args below meth c LX D cy ad 8 (QI LX D cy ad) 30 [(0, .ref (ad 21)), (1, .int x1), (2, .int x2), (3, .int x3), (4, .int x4), (5, .int x5), (6, .int x6)] [] M (fX5_mostLeft_30 n0 k17 x1 x2 x3 x4 x5 x6 M) := lX5_mostLeft_30 n0 hO k17 hk17 n0 x1 x2 x3 x4 x5 x6 M
theorem tbX5_mostLeft_17 (n0 : Nat) (hO : OKc p (rmL 1) s m args meth c LX D cy ad cX5_mostLeft RX5 8 1 (some .int)) (k17 : Int32 → Int32 → Int32 → Int32 → Mem → Option (Int32 × Mem)) (hk17 : ∀ (x1 : Int32) (x2 : Int32) (x3 : Int32) (x4 : Int32) (M : Mem), BL p l e (rmL 1) s m args below meth c LX D cy ad 8 (QI LX D cy ad) 17 [(0, .ref (ad 21)), (1, .int x1), (2, .int x2), (3, .int x3), (4, .int x4)] [] M (k17 x1 x2 x3 x4 M)) (x1 : Int32) (x2 : Int32) (x3 : Int32) (x4 : Int32) (M : Mem) : BL p l e (rmL 1) s m args below meth c LX D cy ad 8 (QI LX D cy ad) 17 [(0, .ref (ad 21)), (1, .int x1), (2, .int x2), (3, .int x3), (4, .int x4)] [] M (bX5_mostLeft_17 n0 k17 x1 x2 x3 x4 M) := by
  unfold bX5_mostLeft_17
  refine b_iload hO dX5_mostLeft_17 4 rfl ?_
  refine b_bipush hO dX5_mostLeft_19 ic_b_7 ?_
  refine b_icmp_ge hO dX5_mostLeft_21 (tgt := 112) (by decide) ?_ ?_
  · refine b_iload_n hO dX5_mostLeft_112 3 rfl rfl ?_
    exact b_iret hO dX5_mostLeft_113
  · refine b_iconst hO dX5_mostLeft_24 ic_i_0 ?_
    refine b_istore hO dX5_mostLeft_25 (by decide) (lv' := [(5, .int _), (0, .ref _), (1, .int _), (2, .int _), (3, .int _), (4, .int _)]) rfl ?_
    refine b_iconst hO dX5_mostLeft_27 ic_i_0 ?_
    refine b_istore hO dX5_mostLeft_28 (by decide) (lv' := [(6, .int _), (5, .int _), (0, .ref _), (1, .int _), (2, .int _), (3, .int _), (4, .int _)]) rfl ?_
    refine b_sub [2, 3, 4, 5, 6, 1, 0] rfl ?_
    exact tfX5_mostLeft_30 n0 hO k17 hk17 _ _ _ _ _ _ _
theorem lX5_mostLeft_17 (n0 : Nat) (hO : OKc p (rmL 1) s m args meth c LX D cy ad cX5_mostLeft RX5 8 1 (some .int)) : ∀ (w : Nat) (x1 : Int32) (x2 : Int32) (x3 : Int32) (x4 : Int32) (M : Mem), BL p l e (rmL 1) s m args below meth c LX D cy ad 8 (QI LX D cy ad) 17 [(0, .ref (ad 21)), (1, .int x1), (2, .int x2), (3, .int x3), (4, .int x4)] [] M (loopN (bX5_mostLeft_17 n0) (fun _ _ _ _ _ => none) w x1 x2 x3 x4 M) := by
  intro w
  induction w with
  | zero =>
    intros
    exact b_none
  | succ w ih =>
    intro x1 x2 x3 x4 M
    exact tbX5_mostLeft_17 n0 hO _ ih x1 x2 x3 x4 M
theorem tfX5_mostLeft_17 (n0 : Nat) (hO : OKc p (rmL 1) s m args meth c LX D cy ad cX5_mostLeft RX5 8 1 (some .int)) (x1 : Int32) (x2 : Int32) (x3 : Int32) (x4 : Int32) (M : Mem) : BL p l e (rmL 1) s m args below meth c LX D cy ad 8 (QI LX D cy ad) 17 [(0, .ref (ad 21)), (1, .int x1), (2, .int x2), (3, .int x3), (4, .int x4)] [] M (fX5_mostLeft_17 n0 x1 x2 x3 x4 M) := lX5_mostLeft_17 n0 hO n0 x1 x2 x3 x4 M
theorem tfX5_mostLeft (n0 : Nat) (hO : OKc p (rmL 1) s m args meth c LX D cy ad cX5_mostLeft RX5 8 1 (some .int)) (x1 : Int32) (x2 : Int32) (M : Mem) : BL p l e (rmL 1) s m args below meth c LX D cy ad 8 (QI LX D cy ad) 0 [(0, .ref (ad 21)), (1, .int x1), (2, .int x2)] [] M (fX5_mostLeft n0 x1 x2 M) := by
  unfold fX5_mostLeft
  refine b_iload_n hO dX5_mostLeft_0 2 rfl rfl ?_
  refine b_if_lt hO dX5_mostLeft_1 (tgt := 10) (by decide) ?_ ?_
  · refine b_iconst hO dX5_mostLeft_10 ic_i_0 ?_
    exact b_iret hO dX5_mostLeft_11
  · refine b_iload_n hO dX5_mostLeft_4 2 rfl rfl ?_
    refine b_bipush hO dX5_mostLeft_5 ic_b_40 ?_
    refine b_icmp_le hO dX5_mostLeft_7 (tgt := 12) (by decide) ?_ ?_
    · refine b_iconst hO dX5_mostLeft_12 ic_i_0 ?_
      refine b_istore_n hO dX5_mostLeft_13 rfl (by decide) (lv' := [(3, .int _), (0, .ref _), (1, .int _), (2, .int _)]) rfl ?_
      refine b_iconst hO dX5_mostLeft_14 ic_i_0 ?_
      refine b_istore hO dX5_mostLeft_15 (by decide) (lv' := [(4, .int _), (3, .int _), (0, .ref _), (1, .int _), (2, .int _)]) rfl ?_
      refine b_sub [2, 3, 4, 1, 0] rfl ?_
      exact tfX5_mostLeft_17 n0 hO _ _ _ _ _
    · refine b_iconst hO dX5_mostLeft_10 ic_i_0 ?_
      exact b_iret hO dX5_mostLeft_11
theorem ctX5_mostLeft (n0 : Nat) (hI : Inj LX ad) (x1 : Int32) (x2 : Int32) (M : Mem) : CT l LX D cy ad yX5_mostLeft cX5_mostLeft 8 (some .int) 1 (QI LX D cy ad) [.ref (ad 21), .int x1, .int x2] M (fX5_mostLeft n0 x1 x2 M) :=
  CT.mk LXok hI (by decide) (Nat.le_of_ble_eq_true rfl) (fun hO => tfX5_mostLeft n0 hO x1 x2 M)
end
end
section
section
variable {p : Program} {l : Launch} {e : Env} {s : State} {m : MethodId} {args : Array Value} {below : List Frame} {meth : Method} {c : Code} {D : va_G} {cy : Nat → ClassId} {ad : Nat → Nat} {dd : Nat}

/-! X10_shorten -/
def fX10_shorten (n0 : Nat) (x1 : Int32) (x2 : Int32) (x3 : Int32) (M : Mem) : Option (Mem) :=
  if oob x2 5 then none else
  if oob x1 5 then none else
  if oob x2 5 then none else
  some (sA M 19 (Int32.toNatClampNeg x2) (imin (gA M 19 (Int32.toNatClampNeg x2)) ((gA M 19 (Int32.toNatClampNeg x1)) + x3)))
theorem tfX10_shorten (n0 : Nat) (hO : OKc p (rmL 1) s m args meth c LX D cy ad cX10_shorten RX10 4 1 none) (x1 : Int32) (x2 : Int32) (x3 : Int32) (M : Mem) : BL p l e (rmL 1) s m args below meth c LX D cy ad 4 (QV LX D cy ad) 0 [(0, .ref (ad 18)), (1, .int x1), (2, .int x2), (3, .int x3)] [] M (fX10_shorten n0 x1 x2 x3 M) := by
  unfold fX10_shorten
  refine b_aload_n hO dX10_shorten_0 0 rfl rfl ?_
  refine b_get hO flX10_9 kLX_18 (v := .ref (ad 19)) rfl dX10_shorten_1 ?_
  refine b_iload_n hO dX10_shorten_4 2 rfl rfl ?_
  refine b_aload_n hO dX10_shorten_5 0 rfl rfl ?_
  refine b_get hO flX10_9 kLX_18 (v := .ref (ad 19)) rfl dX10_shorten_6 ?_
  refine b_iload_n hO dX10_shorten_9 2 rfl rfl ?_
  refine b_iald hO kLX_19 (n := 5) rfl dX10_shorten_10 ?_
  refine b_aload_n hO dX10_shorten_11 0 rfl rfl ?_
  refine b_get hO flX10_9 kLX_18 (v := .ref (ad 19)) rfl dX10_shorten_12 ?_
  refine b_iload_n hO dX10_shorten_15 1 rfl rfl ?_
  refine b_iald hO kLX_19 (n := 5) rfl dX10_shorten_16 ?_
  refine b_iload_n hO dX10_shorten_17 3 rfl rfl ?_
  refine b_iadd hO dX10_shorten_18 ?_
  refine b_mmin hO w1063 w591 w136 wm592 (by first | decide | omega) (Nat.le_of_ble_eq_true rfl) dX10_shorten_19 ?_
  refine b_iast hO kLX_19 (n := 5) rfl dX10_shorten_22 ?_
  exact b_vret hO dX10_shorten_23
theorem ctX10_shorten (n0 : Nat) (hI : Inj LX ad) (x1 : Int32) (x2 : Int32) (x3 : Int32) (M : Mem) : CT l LX D cy ad yX10_shorten cX10_shorten 4 none 1 (QV LX D cy ad) [.ref (ad 18), .int x1, .int x2, .int x3] M (fX10_shorten n0 x1 x2 x3 M) :=
  CT.mk LXok hI (by decide) (Nat.le_of_ble_eq_true rfl) (fun hO => tfX10_shorten n0 hO x1 x2 x3 M)
/-! X10_stepsOf -/
def fX10_stepsOf_27 (n0 : Nat) (q1 : Nat) (k3 : Int32 → Int32 → Int32 → Mem → Option (Int32 × Mem)) (x2 : Int32) (x3 : Int32) (x4 : Int32) (u1 : Int32) (u2 : Int32) (M : Mem) : Option (Int32 × Mem) :=
  if oob u1 5 then none else
  bnd (sA M 19 (Int32.toNatClampNeg u1) u2) fun M27 =>
  k3 x2 x3 (x4 + (1 : Int32)) M27
def bX10_stepsOf_49 (n0 : Nat) (q1 : Nat) (k37 : Int32 → Int32 → Mem → Option (Int32 × Mem)) (k49 : Int32 → Int32 → Int32 → Mem → Option (Int32 × Mem)) (x3 : Int32) (x4 : Int32) (x5 : Int32) (M : Mem) : Option (Int32 × Mem) :=
  if (gI M (128 * q1 + 8)) ≤ x5 then
    k37 x3 (x4 + (1 : Int32)) M
  else
    if oob x5 10 then none else
    if oob x5 10 then none else
    if oob x5 10 then none else
    (fX10_shorten n0 (gA M (q1 + 6) (Int32.toNatClampNeg x5)) (gA M (q1 + 7) (Int32.toNatClampNeg x5)) (gA M (q1 + 8) (Int32.toNatClampNeg x5)) M).bind fun z80 =>
    if oob x5 10 then none else
    if oob x5 10 then none else
    if oob x5 10 then none else
    (fX10_shorten n0 (gA z80 (q1 + 7) (Int32.toNatClampNeg x5)) (gA z80 (q1 + 6) (Int32.toNatClampNeg x5)) (gA z80 (q1 + 8) (Int32.toNatClampNeg x5)) z80).bind fun z105 =>
    k49 x3 x4 (x5 + (1 : Int32)) z105
def fX10_stepsOf_49 (n0 : Nat) (q1 : Nat) (k37 : Int32 → Int32 → Mem → Option (Int32 × Mem)) : Int32 → Int32 → Int32 → Mem → Option (Int32 × Mem) := loopN (bX10_stepsOf_49 n0 q1 k37) (fun _ _ _ _ => none) n0
def bX10_stepsOf_37 (n0 : Nat) (q1 : Nat) (k37 : Int32 → Int32 → Mem → Option (Int32 × Mem)) (x3 : Int32) (x4 : Int32) (M : Mem) : Option (Int32 × Mem) :=
  if (gI M (128 * q1 + 5)) ≤ x4 then
    (fX9_isCorner n0 q1 x3 M).bind fun z122 =>
    if z122.1 = 0 then
      some ((-1 : Int32), z122.2)
    else
      if oob x3 5 then none else
      if (1000000 : Int32) ≤ (gA z122.2 19 (Int32.toNatClampNeg x3)) then
        some ((-1 : Int32), z122.2)
      else
        if oob x3 5 then none else
        some ((gA z122.2 19 (Int32.toNatClampNeg x3)), z122.2)
  else
    fX10_stepsOf_49 n0 q1 k37 x3 x4 (0 : Int32) M
def fX10_stepsOf_37 (n0 : Nat) (q1 : Nat) : Int32 → Int32 → Mem → Option (Int32 × Mem) := loopN (bX10_stepsOf_37 n0 q1) (fun _ _ _ => none) n0
def bX10_stepsOf_3 (n0 : Nat) (q1 : Nat) (k3 : Int32 → Int32 → Int32 → Mem → Option (Int32 × Mem)) (x2 : Int32) (x3 : Int32) (x4 : Int32) (M : Mem) : Option (Int32 × Mem) :=
  if (5 : Int32) ≤ x4 then
    fX10_stepsOf_37 n0 q1 x3 (0 : Int32) M
  else
    if x4 = x2 then
      fX10_stepsOf_27 n0 q1 k3 x2 x3 x4 x4 (0 : Int32) M
    else
      fX10_stepsOf_27 n0 q1 k3 x2 x3 x4 x4 (1000000 : Int32) M
def fX10_stepsOf_3 (n0 : Nat) (q1 : Nat) : Int32 → Int32 → Int32 → Mem → Option (Int32 × Mem) := loopN (bX10_stepsOf_3 n0 q1) (fun _ _ _ _ => none) n0
def fX10_stepsOf (n0 : Nat) (q1 : Nat) (x2 : Int32) (x3 : Int32) (M : Mem) : Option (Int32 × Mem) :=
  fX10_stepsOf_3 n0 q1 x2 x3 (0 : Int32) M
theorem tfX10_stepsOf_27 (n0 : Nat) (q1 : Nat) (hq1 : isK LX q1 9) (hO : OKc p (rmL 2) s m args meth c LX D cy ad cX10_stepsOf RX10 6 2 (some .int)) (k3 : Int32 → Int32 → Int32 → Mem → Option (Int32 × Mem)) (hk3 : ∀ (x2 : Int32) (x3 : Int32) (x4 : Int32) (M : Mem), BL p l e (rmL 2) s m args below meth c LX D cy ad 6 (QI LX D cy ad) 3 [(0, .ref (ad 18)), (1, .ref (ad q1)), (2, .int x2), (3, .int x3), (4, .int x4)] [] M (k3 x2 x3 x4 M)) (x2 : Int32) (x3 : Int32) (x4 : Int32) (u1 : Int32) (u2 : Int32) (M : Mem) : BL p l e (rmL 2) s m args below meth c LX D cy ad 6 (QI LX D cy ad) 27 [(0, .ref (ad 18)), (1, .ref (ad q1)), (2, .int x2), (3, .int x3), (4, .int x4)] [.int u2, .int u1, .ref (ad 19)] M (fX10_stepsOf_27 n0 q1 k3 x2 x3 x4 u1 u2 M) := by
  unfold fX10_stepsOf_27
  refine b_iast hO kLX_19 (n := 5) rfl dX10_stepsOf_27 ?_
  refine b_bnd (fun M27 => ?_)
  refine b_iinc hO dX10_stepsOf_28 4 rfl ic_i_1 (by decide) (lv' := [(4, .int _), (0, .ref _), (1, .ref _), (2, .int _), (3, .int _)]) rfl ?_
  refine b_goto hO dX10_stepsOf_31 (tgt := 3) (by decide) ?_
  refine b_sub [1, 2, 3, 4, 0] rfl ?_
  exact hk3 _ _ _ _
theorem tbX10_stepsOf_49 (n0 : Nat) (q1 : Nat) (hq1 : isK LX q1 9) (hO : OKc p (rmL 2) s m args meth c LX D cy ad cX10_stepsOf RX10 6 2 (some .int)) (k37 : Int32 → Int32 → Mem → Option (Int32 × Mem)) (k49 : Int32 → Int32 → Int32 → Mem → Option (Int32 × Mem)) (hk37 : ∀ (x3 : Int32) (x4 : Int32) (M : Mem), BL p l e (rmL 2) s m args below meth c LX D cy ad 6 (QI LX D cy ad) 37 [(0, .ref (ad 18)), (1, .ref (ad q1)), (3, .int x3), (4, .int x4)] [] M (k37 x3 x4 M)) (hk49 : ∀ (x3 : Int32) (x4 : Int32) (x5 : Int32) (M : Mem), BL p l e (rmL 2) s m args below meth c LX D cy ad 6 (QI LX D cy ad) 49 [(0, .ref (ad 18)), (1, .ref (ad q1)), (3, .int x3), (4, .int x4), (5, .int x5)] [] M (k49 x3 x4 x5 M)) (x3 : Int32) (x4 : Int32) (x5 : Int32) (M : Mem) : BL p l e (rmL 2) s m args below meth c LX D cy ad 6 (QI LX D cy ad) 49 [(0, .ref (ad 18)), (1, .ref (ad q1)), (3, .int x3), (4, .int x4), (5, .int x5)] [] M (bX10_stepsOf_49 n0 q1 k37 k49 x3 x4 x5 M) := by
  unfold bX10_stepsOf_49
  refine b_iload hO dX10_stepsOf_49 4 rfl ?_
  refine b_aload_n hO dX10_stepsOf_51 1 rfl rfl ?_
  refine b_get hO flX10_25 hq1 (v := .int (gI _ (128 * q1 + 8))) rfl dX10_stepsOf_52 ?_
  refine b_icmp_ge hO dX10_stepsOf_55 (tgt := 114) (by decide) ?_ ?_
  · refine b_iinc hO dX10_stepsOf_114 3 rfl ic_i_1 (by decide) (lv' := [(4, .int _), (0, .ref _), (1, .ref _), (3, .int _), (5, .int _)]) rfl ?_
    refine b_goto hO dX10_stepsOf_117 (tgt := 37) (by decide) ?_
    refine b_sub [1, 2, 3, 0] rfl ?_
    exact hk37 _ _ _
  · refine b_aload_n hO dX10_stepsOf_58 0 rfl rfl ?_
    refine b_aload_n hO dX10_stepsOf_59 1 rfl rfl ?_
    refine b_get hO flX10_28 hq1 (v := .ref (ad (q1 + 6))) rfl dX10_stepsOf_60 ?_
    refine b_iload hO dX10_stepsOf_63 4 rfl ?_
    refine b_iald hO (kt_9_6 hq1) (n := 10) (lt_9_6 hq1) dX10_stepsOf_65 ?_
    refine b_aload_n hO dX10_stepsOf_66 1 rfl rfl ?_
    refine b_get hO flX10_31 hq1 (v := .ref (ad (q1 + 7))) rfl dX10_stepsOf_67 ?_
    refine b_iload hO dX10_stepsOf_70 4 rfl ?_
    refine b_iald hO (kt_9_7 hq1) (n := 10) (lt_9_7 hq1) dX10_stepsOf_72 ?_
    refine b_aload_n hO dX10_stepsOf_73 1 rfl rfl ?_
    refine b_get hO flX10_34 hq1 (v := .ref (ad (q1 + 8))) rfl dX10_stepsOf_74 ?_
    refine b_iload hO dX10_stepsOf_77 4 rfl ?_
    refine b_iald hO (kt_9_8 hq1) (n := 10) (lt_9_8 hq1) dX10_stepsOf_79 ?_
    refine b_callVV hO mdX10_shorten mvX10_shorten w1059 (ci := 10) rfl rfl (by decide) kLX_18 (As := [.int _, .int _, .int _]) (st := []) (ctX10_shorten n0 hO.2.2.2.2.2.2.1 _ _ _ _) (Nat.le_of_ble_eq_true rfl) rfl rfl (Nat.le_of_ble_eq_true rfl) dX10_stepsOf_80 (fun z80 => ?_)
    refine b_aload_n hO dX10_stepsOf_83 0 rfl rfl ?_
    refine b_aload_n hO dX10_stepsOf_84 1 rfl rfl ?_
    refine b_get hO flX10_31 hq1 (v := .ref (ad (q1 + 7))) rfl dX10_stepsOf_85 ?_
    refine b_iload hO dX10_stepsOf_88 4 rfl ?_
    refine b_iald hO (kt_9_7 hq1) (n := 10) (lt_9_7 hq1) dX10_stepsOf_90 ?_
    refine b_aload_n hO dX10_stepsOf_91 1 rfl rfl ?_
    refine b_get hO flX10_28 hq1 (v := .ref (ad (q1 + 6))) rfl dX10_stepsOf_92 ?_
    refine b_iload hO dX10_stepsOf_95 4 rfl ?_
    refine b_iald hO (kt_9_6 hq1) (n := 10) (lt_9_6 hq1) dX10_stepsOf_97 ?_
    refine b_aload_n hO dX10_stepsOf_98 1 rfl rfl ?_
    refine b_get hO flX10_34 hq1 (v := .ref (ad (q1 + 8))) rfl dX10_stepsOf_99 ?_
    refine b_iload hO dX10_stepsOf_102 4 rfl ?_
    refine b_iald hO (kt_9_8 hq1) (n := 10) (lt_9_8 hq1) dX10_stepsOf_104 ?_
    refine b_callVV hO mdX10_shorten mvX10_shorten w1059 (ci := 10) rfl rfl (by decide) kLX_18 (As := [.int _, .int _, .int _]) (st := []) (ctX10_shorten n0 hO.2.2.2.2.2.2.1 _ _ _ _) (Nat.le_of_ble_eq_true rfl) rfl rfl (Nat.le_of_ble_eq_true rfl) dX10_stepsOf_105 (fun z105 => ?_)
    refine b_iinc hO dX10_stepsOf_108 4 rfl ic_i_1 (by decide) (lv' := [(5, .int _), (0, .ref _), (1, .ref _), (3, .int _), (4, .int _)]) rfl ?_
    refine b_goto hO dX10_stepsOf_111 (tgt := 49) (by decide) ?_
    refine b_sub [1, 2, 3, 4, 0] rfl ?_
    exact hk49 _ _ _ _
theorem lX10_stepsOf_49 (n0 : Nat) (q1 : Nat) (hq1 : isK LX q1 9) (hO : OKc p (rmL 2) s m args meth c LX D cy ad cX10_stepsOf RX10 6 2 (some .int)) (k37 : Int32 → Int32 → Mem → Option (Int32 × Mem)) (hk37 : ∀ (x3 : Int32) (x4 : Int32) (M : Mem), BL p l e (rmL 2) s m args below meth c LX D cy ad 6 (QI LX D cy ad) 37 [(0, .ref (ad 18)), (1, .ref (ad q1)), (3, .int x3), (4, .int x4)] [] M (k37 x3 x4 M)) : ∀ (w : Nat) (x3 : Int32) (x4 : Int32) (x5 : Int32) (M : Mem), BL p l e (rmL 2) s m args below meth c LX D cy ad 6 (QI LX D cy ad) 49 [(0, .ref (ad 18)), (1, .ref (ad q1)), (3, .int x3), (4, .int x4), (5, .int x5)] [] M (loopN (bX10_stepsOf_49 n0 q1 k37) (fun _ _ _ _ => none) w x3 x4 x5 M) := by
  intro w
  induction w with
  | zero =>
    intros
    exact b_none
  | succ w ih =>
    intro x3 x4 x5 M
    exact tbX10_stepsOf_49 n0 q1 hq1 hO k37 _ hk37 ih x3 x4 x5 M
theorem tfX10_stepsOf_49 (n0 : Nat) (q1 : Nat) (hq1 : isK LX q1 9) (hO : OKc p (rmL 2) s m args meth c LX D cy ad cX10_stepsOf RX10 6 2 (some .int)) (k37 : Int32 → Int32 → Mem → Option (Int32 × Mem)) (hk37 : ∀ (x3 : Int32) (x4 : Int32) (M : Mem), BL p l e (rmL 2) s m args below meth c LX D cy ad 6 (QI LX D cy ad) 37 [(0, .ref (ad 18)), (1, .ref (ad q1)), (3, .int x3), (4, .int x4)] [] M (k37 x3 x4 M)) (x3 : Int32) (x4 : Int32) (x5 : Int32) (M : Mem) : BL p l e (rmL 2) s m args below meth c LX D cy ad 6 (QI LX D cy ad) 49 [(0, .ref (ad 18)), (1, .ref (ad q1)), (3, .int x3), (4, .int x4), (5, .int x5)] [] M (fX10_stepsOf_49 n0 q1 k37 x3 x4 x5 M) := lX10_stepsOf_49 n0 q1 hq1 hO k37 hk37 n0 x3 x4 x5 M
theorem tbX10_stepsOf_37 (n0 : Nat) (q1 : Nat) (hq1 : isK LX q1 9) (hO : OKc p (rmL 2) s m args meth c LX D cy ad cX10_stepsOf RX10 6 2 (some .int)) (k37 : Int32 → Int32 → Mem → Option (Int32 × Mem)) (hk37 : ∀ (x3 : Int32) (x4 : Int32) (M : Mem), BL p l e (rmL 2) s m args below meth c LX D cy ad 6 (QI LX D cy ad) 37 [(0, .ref (ad 18)), (1, .ref (ad q1)), (3, .int x3), (4, .int x4)] [] M (k37 x3 x4 M)) (x3 : Int32) (x4 : Int32) (M : Mem) : BL p l e (rmL 2) s m args below meth c LX D cy ad 6 (QI LX D cy ad) 37 [(0, .ref (ad 18)), (1, .ref (ad q1)), (3, .int x3), (4, .int x4)] [] M (bX10_stepsOf_37 n0 q1 k37 x3 x4 M) := by
  unfold bX10_stepsOf_37
  refine b_iload hO dX10_stepsOf_37 3 rfl ?_
  refine b_aload_n hO dX10_stepsOf_39 1 rfl rfl ?_
  refine b_get hO flX10_19 hq1 (v := .int (gI _ (128 * q1 + 5))) rfl dX10_stepsOf_40 ?_
  refine b_icmp_ge hO dX10_stepsOf_43 (tgt := 120) (by decide) ?_ ?_
  · refine b_aload_n hO dX10_stepsOf_120 1 rfl rfl ?_
    refine b_iload_n hO dX10_stepsOf_121 2 rfl rfl ?_
    refine b_callVI hO mdX9_isCorner mvX9_isCorner w1064 (ci := 9) rfl rfl (by decide) hq1 (As := [.int _]) (st := []) (ctX9_isCorner n0 _ hq1 hO.2.2.2.2.2.2.1 _ _) (Nat.le_of_ble_eq_true rfl) rfl rfl (Nat.le_of_ble_eq_true rfl) dX10_stepsOf_122 (fun z122 => ?_)
    refine b_if_eq hO dX10_stepsOf_125 (tgt := 148) (by decide) ?_ ?_
    · refine b_iconst hO dX10_stepsOf_148 ic_i_m1 ?_
      exact b_iret hO dX10_stepsOf_149
    · refine b_aload_n hO dX10_stepsOf_128 0 rfl rfl ?_
      refine b_get hO flX10_9 kLX_18 (v := .ref (ad 19)) rfl dX10_stepsOf_129 ?_
      refine b_iload_n hO dX10_stepsOf_132 2 rfl rfl ?_
      refine b_iald hO kLX_19 (n := 5) rfl dX10_stepsOf_133 ?_
      refine b_ldc hO w1058 dX10_stepsOf_134 ?_
      refine b_icmp_ge hO dX10_stepsOf_136 (tgt := 148) (by decide) ?_ ?_
      · refine b_iconst hO dX10_stepsOf_148 ic_i_m1 ?_
        exact b_iret hO dX10_stepsOf_149
      · refine b_aload_n hO dX10_stepsOf_139 0 rfl rfl ?_
        refine b_get hO flX10_9 kLX_18 (v := .ref (ad 19)) rfl dX10_stepsOf_140 ?_
        refine b_iload_n hO dX10_stepsOf_143 2 rfl rfl ?_
        refine b_iald hO kLX_19 (n := 5) rfl dX10_stepsOf_144 ?_
        refine b_goto hO dX10_stepsOf_145 (tgt := 149) (by decide) ?_
        exact b_iret hO dX10_stepsOf_149
  · refine b_iconst hO dX10_stepsOf_46 ic_i_0 ?_
    refine b_istore hO dX10_stepsOf_47 (by decide) (lv' := [(5, .int _), (0, .ref _), (1, .ref _), (3, .int _), (4, .int _)]) rfl ?_
    refine b_sub [1, 2, 3, 4, 0] rfl ?_
    exact tfX10_stepsOf_49 n0 q1 hq1 hO k37 hk37 _ _ _ _
theorem lX10_stepsOf_37 (n0 : Nat) (q1 : Nat) (hq1 : isK LX q1 9) (hO : OKc p (rmL 2) s m args meth c LX D cy ad cX10_stepsOf RX10 6 2 (some .int)) : ∀ (w : Nat) (x3 : Int32) (x4 : Int32) (M : Mem), BL p l e (rmL 2) s m args below meth c LX D cy ad 6 (QI LX D cy ad) 37 [(0, .ref (ad 18)), (1, .ref (ad q1)), (3, .int x3), (4, .int x4)] [] M (loopN (bX10_stepsOf_37 n0 q1) (fun _ _ _ => none) w x3 x4 M) := by
  intro w
  induction w with
  | zero =>
    intros
    exact b_none
  | succ w ih =>
    intro x3 x4 M
    exact tbX10_stepsOf_37 n0 q1 hq1 hO _ ih x3 x4 M
theorem tfX10_stepsOf_37 (n0 : Nat) (q1 : Nat) (hq1 : isK LX q1 9) (hO : OKc p (rmL 2) s m args meth c LX D cy ad cX10_stepsOf RX10 6 2 (some .int)) (x3 : Int32) (x4 : Int32) (M : Mem) : BL p l e (rmL 2) s m args below meth c LX D cy ad 6 (QI LX D cy ad) 37 [(0, .ref (ad 18)), (1, .ref (ad q1)), (3, .int x3), (4, .int x4)] [] M (fX10_stepsOf_37 n0 q1 x3 x4 M) := lX10_stepsOf_37 n0 q1 hq1 hO n0 x3 x4 M
theorem tbX10_stepsOf_3 (n0 : Nat) (q1 : Nat) (hq1 : isK LX q1 9) (hO : OKc p (rmL 2) s m args meth c LX D cy ad cX10_stepsOf RX10 6 2 (some .int)) (k3 : Int32 → Int32 → Int32 → Mem → Option (Int32 × Mem)) (hk3 : ∀ (x2 : Int32) (x3 : Int32) (x4 : Int32) (M : Mem), BL p l e (rmL 2) s m args below meth c LX D cy ad 6 (QI LX D cy ad) 3 [(0, .ref (ad 18)), (1, .ref (ad q1)), (2, .int x2), (3, .int x3), (4, .int x4)] [] M (k3 x2 x3 x4 M)) (x2 : Int32) (x3 : Int32) (x4 : Int32) (M : Mem) : BL p l e (rmL 2) s m args below meth c LX D cy ad 6 (QI LX D cy ad) 3 [(0, .ref (ad 18)), (1, .ref (ad q1)), (2, .int x2), (3, .int x3), (4, .int x4)] [] M (bX10_stepsOf_3 n0 q1 k3 x2 x3 x4 M) := by
  unfold bX10_stepsOf_3
  refine b_iload hO dX10_stepsOf_3 4 rfl ?_
  refine b_iconst hO dX10_stepsOf_5 ic_i_5 ?_
  refine b_icmp_ge hO dX10_stepsOf_6 (tgt := 34) (by decide) ?_ ?_
  · refine b_iconst hO dX10_stepsOf_34 ic_i_0 ?_
    refine b_istore hO dX10_stepsOf_35 (by decide) (lv' := [(4, .int _), (0, .ref _), (1, .ref _), (2, .int _), (3, .int _)]) rfl ?_
    refine b_sub [1, 2, 4, 0] rfl ?_
    exact tfX10_stepsOf_37 n0 q1 hq1 hO _ _ _
  · refine b_aload_n hO dX10_stepsOf_9 0 rfl rfl ?_
    refine b_get hO flX10_9 kLX_18 (v := .ref (ad 19)) rfl dX10_stepsOf_10 ?_
    refine b_iload hO dX10_stepsOf_13 4 rfl ?_
    refine b_iload hO dX10_stepsOf_15 4 rfl ?_
    refine b_iload_n hO dX10_stepsOf_17 2 rfl rfl ?_
    refine b_icmp_ne hO dX10_stepsOf_18 (tgt := 25) (by decide) ?_ ?_
    · refine b_ldc hO w1058 dX10_stepsOf_25 ?_
      exact tfX10_stepsOf_27 n0 q1 hq1 hO k3 hk3 _ _ _ _ _ _
    · refine b_iconst hO dX10_stepsOf_21 ic_i_0 ?_
      refine b_goto hO dX10_stepsOf_22 (tgt := 27) (by decide) ?_
      exact tfX10_stepsOf_27 n0 q1 hq1 hO k3 hk3 _ _ _ _ _ _
theorem lX10_stepsOf_3 (n0 : Nat) (q1 : Nat) (hq1 : isK LX q1 9) (hO : OKc p (rmL 2) s m args meth c LX D cy ad cX10_stepsOf RX10 6 2 (some .int)) : ∀ (w : Nat) (x2 : Int32) (x3 : Int32) (x4 : Int32) (M : Mem), BL p l e (rmL 2) s m args below meth c LX D cy ad 6 (QI LX D cy ad) 3 [(0, .ref (ad 18)), (1, .ref (ad q1)), (2, .int x2), (3, .int x3), (4, .int x4)] [] M (loopN (bX10_stepsOf_3 n0 q1) (fun _ _ _ _ => none) w x2 x3 x4 M) := by
  intro w
  induction w with
  | zero =>
    intros
    exact b_none
  | succ w ih =>
    intro x2 x3 x4 M
    exact tbX10_stepsOf_3 n0 q1 hq1 hO _ ih x2 x3 x4 M
theorem tfX10_stepsOf_3 (n0 : Nat) (q1 : Nat) (hq1 : isK LX q1 9) (hO : OKc p (rmL 2) s m args meth c LX D cy ad cX10_stepsOf RX10 6 2 (some .int)) (x2 : Int32) (x3 : Int32) (x4 : Int32) (M : Mem) : BL p l e (rmL 2) s m args below meth c LX D cy ad 6 (QI LX D cy ad) 3 [(0, .ref (ad 18)), (1, .ref (ad q1)), (2, .int x2), (3, .int x3), (4, .int x4)] [] M (fX10_stepsOf_3 n0 q1 x2 x3 x4 M) := lX10_stepsOf_3 n0 q1 hq1 hO n0 x2 x3 x4 M
theorem tfX10_stepsOf (n0 : Nat) (q1 : Nat) (hq1 : isK LX q1 9) (hO : OKc p (rmL 2) s m args meth c LX D cy ad cX10_stepsOf RX10 6 2 (some .int)) (x2 : Int32) (x3 : Int32) (M : Mem) : BL p l e (rmL 2) s m args below meth c LX D cy ad 6 (QI LX D cy ad) 0 [(0, .ref (ad 18)), (1, .ref (ad q1)), (2, .int x2), (3, .int x3)] [] M (fX10_stepsOf n0 q1 x2 x3 M) := by
  unfold fX10_stepsOf
  refine b_iconst hO dX10_stepsOf_0 ic_i_0 ?_
  refine b_istore hO dX10_stepsOf_1 (by decide) (lv' := [(4, .int _), (0, .ref _), (1, .ref _), (2, .int _), (3, .int _)]) rfl ?_
  refine b_sub [1, 2, 3, 4, 0] rfl ?_
  exact tfX10_stepsOf_3 n0 q1 hq1 hO _ _ _ _
theorem ctX10_stepsOf (n0 : Nat) (q1 : Nat) (hq1 : isK LX q1 9) (hI : Inj LX ad) (x2 : Int32) (x3 : Int32) (M : Mem) : CT l LX D cy ad yX10_stepsOf cX10_stepsOf 6 (some .int) 2 (QI LX D cy ad) [.ref (ad 18), .ref (ad q1), .int x2, .int x3] M (fX10_stepsOf n0 q1 x2 x3 M) :=
  CT.mk LXok hI (by decide) (Nat.le_of_ble_eq_true rfl) (fun hO => tfX10_stepsOf n0 q1 hq1 hO x2 x3 M)
/-! X10_across -/
def fX10_across (n0 : Nat) (q0 : Nat) (x1 : Int32) (x2 : Int32) (M : Mem) : Option (Int32 × Mem) :=
  if oob x1 10 then none else
  bnd (gA M (q0 + 6) (Int32.toNatClampNeg x1)) fun x3_6 =>
  if oob x1 10 then none else
  bnd (gA M (q0 + 7) (Int32.toNatClampNeg x1)) fun x4_13 =>
  some (((((x2 >>> (x3_6 &&& 31)) &&& (1 : Int32)) <<< (x4_13 &&& 31)) ||| (((x2 >>> (x4_13 &&& 31)) &&& (1 : Int32)) <<< (x3_6 &&& 31))), M)
theorem tfX10_across (n0 : Nat) (q0 : Nat) (hq0 : isK LX q0 9) (hO : OKc p (rmL 1) s m args meth c LX D cy ad cX10_across RX10 5 1 (some .int)) (x1 : Int32) (x2 : Int32) (M : Mem) : BL p l e (rmL 1) s m args below meth c LX D cy ad 5 (QI LX D cy ad) 0 [(0, .ref (ad q0)), (1, .int x1), (2, .int x2)] [] M (fX10_across n0 q0 x1 x2 M) := by
  unfold fX10_across
  refine b_aload_n hO dX10_across_0 0 rfl rfl ?_
  refine b_get hO flX10_28 hq0 (v := .ref (ad (q0 + 6))) rfl dX10_across_1 ?_
  refine b_iload_n hO dX10_across_4 1 rfl rfl ?_
  refine b_iald hO (kt_9_6 hq0) (n := 10) (lt_9_6 hq0) dX10_across_5 ?_
  refine b_topI (fun x3_6 => ?_)
  refine b_istore_n hO dX10_across_6 rfl (by decide) (lv' := [(3, .int _), (0, .ref _), (1, .int _), (2, .int _)]) rfl ?_
  refine b_aload_n hO dX10_across_7 1 rfl rfl ?_
  refine b_get hO flX10_31 hq0 (v := .ref (ad (q0 + 7))) rfl dX10_across_8 ?_
  refine b_iload_n hO dX10_across_11 2 rfl rfl ?_
  refine b_iald hO (kt_9_7 hq0) (n := 10) (lt_9_7 hq0) dX10_across_12 ?_
  refine b_topI (fun x4_13 => ?_)
  refine b_istore hO dX10_across_13 (by decide) (lv' := [(4, .int _), (3, .int _), (0, .ref _), (1, .int _), (2, .int _)]) rfl ?_
  refine b_iload_n hO dX10_across_15 4 rfl rfl ?_
  refine b_iload_n hO dX10_across_16 1 rfl rfl ?_
  refine b_ishr hO dX10_across_17 ?_
  refine b_iconst hO dX10_across_18 ic_i_1 ?_
  refine b_iand hO dX10_across_19 ?_
  refine b_iload hO dX10_across_20 0 rfl ?_
  refine b_ishl hO dX10_across_22 ?_
  refine b_iload_n hO dX10_across_23 4 rfl rfl ?_
  refine b_iload hO dX10_across_24 0 rfl ?_
  refine b_ishr hO dX10_across_26 ?_
  refine b_iconst hO dX10_across_27 ic_i_1 ?_
  refine b_iand hO dX10_across_28 ?_
  refine b_iload_n hO dX10_across_29 1 rfl rfl ?_
  refine b_ishl hO dX10_across_30 ?_
  refine b_ior hO dX10_across_31 ?_
  exact b_iret hO dX10_across_32
theorem ctX10_across (n0 : Nat) (q0 : Nat) (hq0 : isK LX q0 9) (hI : Inj LX ad) (x1 : Int32) (x2 : Int32) (M : Mem) : CT l LX D cy ad yX10_across cX10_across 5 (some .int) 1 (QI LX D cy ad) [.ref (ad q0), .int x1, .int x2] M (fX10_across n0 q0 x1 x2 M) :=
  CT.mk LXok hI (by decide) (Nat.le_of_ble_eq_true rfl) (fun hO => tfX10_across n0 q0 hq0 hO x1 x2 M)
/-! X10_goOutFrom -/
def fX10_goOutFrom_74 (n0 : Nat) (q1 : Nat) (k11 : Int32 → Mem → Option (Mem)) (k27 : Int32 → Int32 → Mem → Option (Mem)) (x3 : Int32) (x4 : Int32) (M : Mem) : Option (Mem) :=
  k27 x3 (x4 + (1 : Int32)) M
def bX10_goOutFrom_27 (n0 : Nat) (q1 : Nat) (k11 : Int32 → Mem → Option (Mem)) (k27 : Int32 → Int32 → Mem → Option (Mem)) (x3 : Int32) (x4 : Int32) (M : Mem) : Option (Mem) :=
  if (gI M (128 * q1 + 8)) ≤ x4 then
    k11 (x3 + (1 : Int32)) M
  else
    if oob x4 10 then none else
    bnd (x3 - (gA M (q1 + 8) (Int32.toNatClampNeg x4))) fun x5_45 =>
    if x5_45 < 0 then
      fX10_goOutFrom_74 n0 q1 k11 k27 x3 x4 M
    else
      if oob x3 61 then none else
      if oob x5_45 61 then none else
      (fX10_across n0 q1 x4 (gA M 20 (Int32.toNatClampNeg x5_45)) M).bind fun z69 =>
      if oob x3 61 then none else
      fX10_goOutFrom_74 n0 q1 k11 k27 x3 x4 (sA z69.2 20 (Int32.toNatClampNeg x3) ((gA M 20 (Int32.toNatClampNeg x3)) ||| z69.1))
def fX10_goOutFrom_27 (n0 : Nat) (q1 : Nat) (k11 : Int32 → Mem → Option (Mem)) : Int32 → Int32 → Mem → Option (Mem) := loopN (bX10_goOutFrom_27 n0 q1 k11) (fun _ _ _ => none) n0
def bX10_goOutFrom_11 (n0 : Nat) (q1 : Nat) (k11 : Int32 → Mem → Option (Mem)) (x3 : Int32) (M : Mem) : Option (Mem) :=
  if (60 : Int32) < x3 then
    some M
  else
    if oob x3 61 then none else
    bnd (sA M 20 (Int32.toNatClampNeg x3) (0 : Int32)) fun M23 =>
    fX10_goOutFrom_27 n0 q1 k11 x3 (0 : Int32) M23
def fX10_goOutFrom_11 (n0 : Nat) (q1 : Nat) : Int32 → Mem → Option (Mem) := loopN (bX10_goOutFrom_11 n0 q1) (fun _ _ => none) n0
def fX10_goOutFrom (n0 : Nat) (q1 : Nat) (x2 : Int32) (M : Mem) : Option (Mem) :=
  if oob (0 : Int32) 61 then none else
  bnd (sA M 20 (Int32.toNatClampNeg (0 : Int32)) ((1 : Int32) <<< (x2 &&& 31))) fun M8 =>
  fX10_goOutFrom_11 n0 q1 (1 : Int32) M8
theorem tfX10_goOutFrom_74 (n0 : Nat) (q1 : Nat) (hq1 : isK LX q1 9) (hO : OKc p (rmL 2) s m args meth c LX D cy ad cX10_goOutFrom RX10 6 2 none) (k11 : Int32 → Mem → Option (Mem)) (k27 : Int32 → Int32 → Mem → Option (Mem)) (hk11 : ∀ (x3 : Int32) (M : Mem), BL p l e (rmL 2) s m args below meth c LX D cy ad 6 (QV LX D cy ad) 11 [(0, .ref (ad 18)), (1, .ref (ad q1)), (3, .int x3)] [] M (k11 x3 M)) (hk27 : ∀ (x3 : Int32) (x4 : Int32) (M : Mem), BL p l e (rmL 2) s m args below meth c LX D cy ad 6 (QV LX D cy ad) 27 [(0, .ref (ad 18)), (1, .ref (ad q1)), (3, .int x3), (4, .int x4)] [] M (k27 x3 x4 M)) (x3 : Int32) (x4 : Int32) (M : Mem) : BL p l e (rmL 2) s m args below meth c LX D cy ad 6 (QV LX D cy ad) 74 [(0, .ref (ad 18)), (1, .ref (ad q1)), (3, .int x3), (4, .int x4)] [] M (fX10_goOutFrom_74 n0 q1 k11 k27 x3 x4 M) := by
  unfold fX10_goOutFrom_74
  refine b_iinc hO dX10_goOutFrom_74 3 rfl ic_i_1 (by decide) (lv' := [(4, .int _), (0, .ref _), (1, .ref _), (3, .int _)]) rfl ?_
  refine b_goto hO dX10_goOutFrom_77 (tgt := 27) (by decide) ?_
  refine b_sub [1, 2, 3, 0] rfl ?_
  exact hk27 _ _ _
theorem tbX10_goOutFrom_27 (n0 : Nat) (q1 : Nat) (hq1 : isK LX q1 9) (hO : OKc p (rmL 2) s m args meth c LX D cy ad cX10_goOutFrom RX10 6 2 none) (k11 : Int32 → Mem → Option (Mem)) (k27 : Int32 → Int32 → Mem → Option (Mem)) (hk11 : ∀ (x3 : Int32) (M : Mem), BL p l e (rmL 2) s m args below meth c LX D cy ad 6 (QV LX D cy ad) 11 [(0, .ref (ad 18)), (1, .ref (ad q1)), (3, .int x3)] [] M (k11 x3 M)) (hk27 : ∀ (x3 : Int32) (x4 : Int32) (M : Mem), BL p l e (rmL 2) s m args below meth c LX D cy ad 6 (QV LX D cy ad) 27 [(0, .ref (ad 18)), (1, .ref (ad q1)), (3, .int x3), (4, .int x4)] [] M (k27 x3 x4 M)) (x3 : Int32) (x4 : Int32) (M : Mem) : BL p l e (rmL 2) s m args below meth c LX D cy ad 6 (QV LX D cy ad) 27 [(0, .ref (ad 18)), (1, .ref (ad q1)), (3, .int x3), (4, .int x4)] [] M (bX10_goOutFrom_27 n0 q1 k11 k27 x3 x4 M) := by
  unfold bX10_goOutFrom_27
  refine b_iload hO dX10_goOutFrom_27 3 rfl ?_
  refine b_aload_n hO dX10_goOutFrom_29 1 rfl rfl ?_
  refine b_get hO flX10_25 hq1 (v := .int (gI _ (128 * q1 + 8))) rfl dX10_goOutFrom_30 ?_
  refine b_icmp_ge hO dX10_goOutFrom_33 (tgt := 80) (by decide) ?_ ?_
  · refine b_iinc hO dX10_goOutFrom_80 2 rfl ic_i_1 (by decide) (lv' := [(3, .int _), (0, .ref _), (1, .ref _), (4, .int _)]) rfl ?_
    refine b_goto hO dX10_goOutFrom_83 (tgt := 11) (by decide) ?_
    refine b_sub [1, 2, 0] rfl ?_
    exact hk11 _ _
  · refine b_iload_n hO dX10_goOutFrom_36 2 rfl rfl ?_
    refine b_aload_n hO dX10_goOutFrom_37 1 rfl rfl ?_
    refine b_get hO flX10_34 hq1 (v := .ref (ad (q1 + 8))) rfl dX10_goOutFrom_38 ?_
    refine b_iload hO dX10_goOutFrom_41 3 rfl ?_
    refine b_iald hO (kt_9_8 hq1) (n := 10) (lt_9_8 hq1) dX10_goOutFrom_43 ?_
    refine b_isub hO dX10_goOutFrom_44 ?_
    refine b_topI (fun x5_45 => ?_)
    refine b_istore hO dX10_goOutFrom_45 (by decide) (lv' := [(5, .int _), (0, .ref _), (1, .ref _), (3, .int _), (4, .int _)]) rfl ?_
    refine b_iload hO dX10_goOutFrom_47 0 rfl ?_
    refine b_if_lt hO dX10_goOutFrom_49 (tgt := 74) (by decide) ?_ ?_
    · refine b_sub [1, 2, 3, 4] rfl ?_
      exact tfX10_goOutFrom_74 n0 q1 hq1 hO k11 k27 hk11 hk27 _ _ _
    · refine b_aload_n hO dX10_goOutFrom_52 1 rfl rfl ?_
      refine b_get hO flX10_15 kLX_18 (v := .ref (ad 20)) rfl dX10_goOutFrom_53 ?_
      refine b_iload_n hO dX10_goOutFrom_56 3 rfl rfl ?_
      refine b_dup2 hO dX10_goOutFrom_57 rfl rfl ?_
      refine b_iald hO kLX_20 (n := 61) rfl dX10_goOutFrom_58 ?_
      refine b_aload_n hO dX10_goOutFrom_59 2 rfl rfl ?_
      refine b_iload hO dX10_goOutFrom_60 4 rfl ?_
      refine b_aload_n hO dX10_goOutFrom_62 1 rfl rfl ?_
      refine b_get hO flX10_15 kLX_18 (v := .ref (ad 20)) rfl dX10_goOutFrom_63 ?_
      refine b_iload hO dX10_goOutFrom_66 0 rfl ?_
      refine b_iald hO kLX_20 (n := 61) rfl dX10_goOutFrom_68 ?_
      refine b_callSI hO mdX10_across w1078 w1077 (As := [.ref _, .int _, .int _]) (st := [.int _, .int _, .ref _]) (ctX10_across n0 _ hq1 hO.2.2.2.2.2.2.1 _ _ _) (Nat.le_of_ble_eq_true rfl) rfl rfl (Nat.le_of_ble_eq_true rfl) dX10_goOutFrom_69 (fun z69 => ?_)
      refine b_ior hO dX10_goOutFrom_72 ?_
      refine b_iast hO kLX_20 (n := 61) rfl dX10_goOutFrom_73 ?_
      refine b_sub [1, 2, 3, 4] rfl ?_
      exact tfX10_goOutFrom_74 n0 q1 hq1 hO k11 k27 hk11 hk27 _ _ _
theorem lX10_goOutFrom_27 (n0 : Nat) (q1 : Nat) (hq1 : isK LX q1 9) (hO : OKc p (rmL 2) s m args meth c LX D cy ad cX10_goOutFrom RX10 6 2 none) (k11 : Int32 → Mem → Option (Mem)) (hk11 : ∀ (x3 : Int32) (M : Mem), BL p l e (rmL 2) s m args below meth c LX D cy ad 6 (QV LX D cy ad) 11 [(0, .ref (ad 18)), (1, .ref (ad q1)), (3, .int x3)] [] M (k11 x3 M)) : ∀ (w : Nat) (x3 : Int32) (x4 : Int32) (M : Mem), BL p l e (rmL 2) s m args below meth c LX D cy ad 6 (QV LX D cy ad) 27 [(0, .ref (ad 18)), (1, .ref (ad q1)), (3, .int x3), (4, .int x4)] [] M (loopN (bX10_goOutFrom_27 n0 q1 k11) (fun _ _ _ => none) w x3 x4 M) := by
  intro w
  induction w with
  | zero =>
    intros
    exact b_none
  | succ w ih =>
    intro x3 x4 M
    exact tbX10_goOutFrom_27 n0 q1 hq1 hO k11 _ hk11 ih x3 x4 M
theorem tfX10_goOutFrom_27 (n0 : Nat) (q1 : Nat) (hq1 : isK LX q1 9) (hO : OKc p (rmL 2) s m args meth c LX D cy ad cX10_goOutFrom RX10 6 2 none) (k11 : Int32 → Mem → Option (Mem)) (hk11 : ∀ (x3 : Int32) (M : Mem), BL p l e (rmL 2) s m args below meth c LX D cy ad 6 (QV LX D cy ad) 11 [(0, .ref (ad 18)), (1, .ref (ad q1)), (3, .int x3)] [] M (k11 x3 M)) (x3 : Int32) (x4 : Int32) (M : Mem) : BL p l e (rmL 2) s m args below meth c LX D cy ad 6 (QV LX D cy ad) 27 [(0, .ref (ad 18)), (1, .ref (ad q1)), (3, .int x3), (4, .int x4)] [] M (fX10_goOutFrom_27 n0 q1 k11 x3 x4 M) := lX10_goOutFrom_27 n0 q1 hq1 hO k11 hk11 n0 x3 x4 M
theorem tbX10_goOutFrom_11 (n0 : Nat) (q1 : Nat) (hq1 : isK LX q1 9) (hO : OKc p (rmL 2) s m args meth c LX D cy ad cX10_goOutFrom RX10 6 2 none) (k11 : Int32 → Mem → Option (Mem)) (hk11 : ∀ (x3 : Int32) (M : Mem), BL p l e (rmL 2) s m args below meth c LX D cy ad 6 (QV LX D cy ad) 11 [(0, .ref (ad 18)), (1, .ref (ad q1)), (3, .int x3)] [] M (k11 x3 M)) (x3 : Int32) (M : Mem) : BL p l e (rmL 2) s m args below meth c LX D cy ad 6 (QV LX D cy ad) 11 [(0, .ref (ad 18)), (1, .ref (ad q1)), (3, .int x3)] [] M (bX10_goOutFrom_11 n0 q1 k11 x3 M) := by
  unfold bX10_goOutFrom_11
  refine b_iload_n hO dX10_goOutFrom_11 2 rfl rfl ?_
  refine b_bipush hO dX10_goOutFrom_12 ic_b_60 ?_
  refine b_icmp_gt hO dX10_goOutFrom_14 (tgt := 86) (by decide) ?_ ?_
  · exact b_vret hO dX10_goOutFrom_86
  · refine b_aload_n hO dX10_goOutFrom_17 0 rfl rfl ?_
    refine b_get hO flX10_15 kLX_18 (v := .ref (ad 20)) rfl dX10_goOutFrom_18 ?_
    refine b_iload_n hO dX10_goOutFrom_21 2 rfl rfl ?_
    refine b_iconst hO dX10_goOutFrom_22 ic_i_0 ?_
    refine b_iast hO kLX_20 (n := 61) rfl dX10_goOutFrom_23 ?_
    refine b_bnd (fun M23 => ?_)
    refine b_iconst hO dX10_goOutFrom_24 ic_i_0 ?_
    refine b_istore hO dX10_goOutFrom_25 (by decide) (lv' := [(4, .int _), (0, .ref _), (1, .ref _), (3, .int _)]) rfl ?_
    refine b_sub [1, 2, 3, 0] rfl ?_
    exact tfX10_goOutFrom_27 n0 q1 hq1 hO k11 hk11 _ _ _
theorem lX10_goOutFrom_11 (n0 : Nat) (q1 : Nat) (hq1 : isK LX q1 9) (hO : OKc p (rmL 2) s m args meth c LX D cy ad cX10_goOutFrom RX10 6 2 none) : ∀ (w : Nat) (x3 : Int32) (M : Mem), BL p l e (rmL 2) s m args below meth c LX D cy ad 6 (QV LX D cy ad) 11 [(0, .ref (ad 18)), (1, .ref (ad q1)), (3, .int x3)] [] M (loopN (bX10_goOutFrom_11 n0 q1) (fun _ _ => none) w x3 M) := by
  intro w
  induction w with
  | zero =>
    intros
    exact b_none
  | succ w ih =>
    intro x3 M
    exact tbX10_goOutFrom_11 n0 q1 hq1 hO _ ih x3 M
theorem tfX10_goOutFrom_11 (n0 : Nat) (q1 : Nat) (hq1 : isK LX q1 9) (hO : OKc p (rmL 2) s m args meth c LX D cy ad cX10_goOutFrom RX10 6 2 none) (x3 : Int32) (M : Mem) : BL p l e (rmL 2) s m args below meth c LX D cy ad 6 (QV LX D cy ad) 11 [(0, .ref (ad 18)), (1, .ref (ad q1)), (3, .int x3)] [] M (fX10_goOutFrom_11 n0 q1 x3 M) := lX10_goOutFrom_11 n0 q1 hq1 hO n0 x3 M
theorem tfX10_goOutFrom (n0 : Nat) (q1 : Nat) (hq1 : isK LX q1 9) (hO : OKc p (rmL 2) s m args meth c LX D cy ad cX10_goOutFrom RX10 6 2 none) (x2 : Int32) (M : Mem) : BL p l e (rmL 2) s m args below meth c LX D cy ad 6 (QV LX D cy ad) 0 [(0, .ref (ad 18)), (1, .ref (ad q1)), (2, .int x2)] [] M (fX10_goOutFrom n0 q1 x2 M) := by
  unfold fX10_goOutFrom
  refine b_aload_n hO dX10_goOutFrom_0 0 rfl rfl ?_
  refine b_get hO flX10_15 kLX_18 (v := .ref (ad 20)) rfl dX10_goOutFrom_1 ?_
  refine b_iconst hO dX10_goOutFrom_4 ic_i_0 ?_
  refine b_iconst hO dX10_goOutFrom_5 ic_i_1 ?_
  refine b_iload_n hO dX10_goOutFrom_6 2 rfl rfl ?_
  refine b_ishl hO dX10_goOutFrom_7 ?_
  refine b_iast hO kLX_20 (n := 61) rfl dX10_goOutFrom_8 ?_
  refine b_bnd (fun M8 => ?_)
  refine b_iconst hO dX10_goOutFrom_9 ic_i_1 ?_
  refine b_istore_n hO dX10_goOutFrom_10 rfl (by decide) (lv' := [(3, .int _), (0, .ref _), (1, .ref _), (2, .int _)]) rfl ?_
  refine b_sub [1, 2, 0] rfl ?_
  exact tfX10_goOutFrom_11 n0 q1 hq1 hO _ _
theorem ctX10_goOutFrom (n0 : Nat) (q1 : Nat) (hq1 : isK LX q1 9) (hI : Inj LX ad) (x2 : Int32) (M : Mem) : CT l LX D cy ad yX10_goOutFrom cX10_goOutFrom 6 none 2 (QV LX D cy ad) [.ref (ad 18), .ref (ad q1), .int x2] M (fX10_goOutFrom n0 q1 x2 M) :=
  CT.mk LXok hI (by decide) (Nat.le_of_ble_eq_true rfl) (fun hO => tfX10_goOutFrom n0 q1 hq1 hO x2 M)
/-! X10_canBeAt -/
def fX10_canBeAt (n0 : Nat) (x1 : Int32) (x2 : Int32) (M : Mem) : Option (Int32 × Mem) :=
  if x2 < 0 then
    some ((0 : Int32), M)
  else
    if (60 : Int32) < x2 then
      some ((0 : Int32), M)
    else
      if oob x2 61 then none else
      if (((gA M 20 (Int32.toNatClampNeg x2)) >>> (x1 &&& 31)) &&& (1 : Int32)) = (1 : Int32) then
        some ((1 : Int32), M)
      else
        some ((0 : Int32), M)
theorem tfX10_canBeAt (n0 : Nat) (hO : OKc p (rmL 1) s m args meth c LX D cy ad cX10_canBeAt RX10 3 1 (some .boolean)) (x1 : Int32) (x2 : Int32) (M : Mem) : BL p l e (rmL 1) s m args below meth c LX D cy ad 3 (QI LX D cy ad) 0 [(0, .ref (ad 18)), (1, .int x1), (2, .int x2)] [] M (fX10_canBeAt n0 x1 x2 M) := by
  unfold fX10_canBeAt
  refine b_iload_n hO dX10_canBeAt_0 2 rfl rfl ?_
  refine b_if_lt hO dX10_canBeAt_1 (tgt := 28) (by decide) ?_ ?_
  · refine b_iconst hO dX10_canBeAt_28 ic_i_0 ?_
    exact b_zretc hO (Or.inl rfl) dX10_canBeAt_29
  · refine b_iload_n hO dX10_canBeAt_4 2 rfl rfl ?_
    refine b_bipush hO dX10_canBeAt_5 ic_b_60 ?_
    refine b_icmp_gt hO dX10_canBeAt_7 (tgt := 28) (by decide) ?_ ?_
    · refine b_iconst hO dX10_canBeAt_28 ic_i_0 ?_
      exact b_zretc hO (Or.inl rfl) dX10_canBeAt_29
    · refine b_aload_n hO dX10_canBeAt_10 0 rfl rfl ?_
      refine b_get hO flX10_15 kLX_18 (v := .ref (ad 20)) rfl dX10_canBeAt_11 ?_
      refine b_iload_n hO dX10_canBeAt_14 2 rfl rfl ?_
      refine b_iald hO kLX_20 (n := 61) rfl dX10_canBeAt_15 ?_
      refine b_iload_n hO dX10_canBeAt_16 1 rfl rfl ?_
      refine b_ishr hO dX10_canBeAt_17 ?_
      refine b_iconst hO dX10_canBeAt_18 ic_i_1 ?_
      refine b_iand hO dX10_canBeAt_19 ?_
      refine b_iconst hO dX10_canBeAt_20 ic_i_1 ?_
      refine b_icmp_ne hO dX10_canBeAt_21 (tgt := 28) (by decide) ?_ ?_
      · refine b_iconst hO dX10_canBeAt_28 ic_i_0 ?_
        exact b_zretc hO (Or.inl rfl) dX10_canBeAt_29
      · refine b_iconst hO dX10_canBeAt_24 ic_i_1 ?_
        refine b_goto hO dX10_canBeAt_25 (tgt := 29) (by decide) ?_
        exact b_zretc hO (Or.inr rfl) dX10_canBeAt_29
theorem ctX10_canBeAt (n0 : Nat) (hI : Inj LX ad) (x1 : Int32) (x2 : Int32) (M : Mem) : CT l LX D cy ad yX10_canBeAt cX10_canBeAt 3 (some .boolean) 1 (QI LX D cy ad) [.ref (ad 18), .int x1, .int x2] M (fX10_canBeAt n0 x1 x2 M) :=
  CT.mk LXok hI (by decide) (Nat.le_of_ble_eq_true rfl) (fun hO => tfX10_canBeAt n0 hO x1 x2 M)
end
end
section
section
variable {p : Program} {l : Launch} {e : Env} {s : State} {m : MethodId} {args : Array Value} {below : List Frame} {meth : Method} {c : Code} {D : va_G} {cy : Nat → ClassId} {ad : Nat → Nat} {dd : Nat}

/-! X4_skipFirst -/
def fX4_skipFirst (n0 : Nat) (x1 : Int32) (M : Mem) : Option (Int32 × Mem) :=
  if x1 = 0 then
    (fX8_fail n0 (6 : Int32) (gI M 387) M).bind fun z17 =>
    if z17.1 = 0 ∨ z17.1 = 1 then some (z17.1, z17.2) else none
  else
    (fX8_advance n0 M).bind fun z25 =>
    some ((1 : Int32), z25)
theorem tfX4_skipFirst (n0 : Nat) (hO : OKc p (rmL 4) s m args meth c LX D cy ad cX4_skipFirst RX4 2 4 (some .boolean)) (x1 : Int32) (M : Mem) : BL p l e (rmL 4) s m args below meth c LX D cy ad 2 (QI LX D cy ad) 0 [(0, .ref (ad 1)), (1, .int x1)] [] M (fX4_skipFirst n0 x1 M) := by
  unfold fX4_skipFirst
  refine b_iload_n hO dX4_skipFirst_0 1 rfl rfl ?_
  refine b_if_ne hO dX4_skipFirst_1 (tgt := 21) (by decide) ?_ ?_
  · refine b_aload_n hO dX4_skipFirst_21 0 rfl rfl ?_
    refine b_get hO flX4_14 kLX_1 (v := .ref (ad 3)) rfl dX4_skipFirst_22 ?_
    refine b_callVV hO mdX8_advance mvX8_advance w745 (ci := 8) rfl rfl (by decide) kLX_3 (As := []) (st := []) (ctX8_advance n0 hO.2.2.2.2.2.2.1 _) (Nat.le_of_ble_eq_true rfl) rfl rfl (Nat.le_of_ble_eq_true rfl) dX4_skipFirst_25 (fun z25 => ?_)
    refine b_iconst hO dX4_skipFirst_28 ic_i_1 ?_
    exact b_zretc hO (Or.inr rfl) dX4_skipFirst_29
  · refine b_aload_n hO dX4_skipFirst_4 0 rfl rfl ?_
    refine b_get hO flX4_14 kLX_1 (v := .ref (ad 3)) rfl dX4_skipFirst_5 ?_
    refine b_bipush hO dX4_skipFirst_8 ic_b_6 ?_
    refine b_aload_n hO dX4_skipFirst_10 0 rfl rfl ?_
    refine b_get hO flX4_14 kLX_1 (v := .ref (ad 3)) rfl dX4_skipFirst_11 ?_
    refine b_get hO flX4_60 kLX_3 (v := .int (gI _ 387)) rfl dX4_skipFirst_14 ?_
    refine b_callVI hO mdX8_fail mvX8_fail w741 (ci := 8) rfl rfl (by decide) kLX_3 (As := [.int _, .int _]) (st := []) (ctX8_fail n0 hO.2.2.2.2.2.2.1 _ _ _) (Nat.le_of_ble_eq_true rfl) rfl rfl (Nat.le_of_ble_eq_true rfl) dX4_skipFirst_17 (fun z17 => ?_)
    exact b_zret hO dX4_skipFirst_20
theorem ctX4_skipFirst (n0 : Nat) (hI : Inj LX ad) (x1 : Int32) (M : Mem) : CT l LX D cy ad yX4_skipFirst cX4_skipFirst 2 (some .boolean) 4 (QI LX D cy ad) [.ref (ad 1), .int x1] M (fX4_skipFirst n0 x1 M) :=
  CT.mk LXok hI (by decide) (Nat.le_of_ble_eq_true rfl) (fun hO => tfX4_skipFirst n0 hO x1 M)
/-! X4_newName -/
def fX4_newName_67 (n0 : Nat) (M : Mem) : Option (Int32 × Mem) :=
  (fX8_fail n0 (2 : Int32) (gI M 387) M).bind fun z79 =>
  some ((-1 : Int32), z79.2)
def fX4_newName (n0 : Nat) (M : Mem) : Option (Int32 × Mem) :=
  bnd (gI M 389) fun x1_7 =>
  if (gI M 386) = (257 : Int32) then
    (fX9_findThing n0 (gR M 130) x1_7 M).bind fun z36 =>
    if z36.1 = (-1 : Int32) then
      (fX9_findCorner n0 (gR z36.2 130) x1_7 z36.2).bind fun z48 =>
      if z48.1 = (-1 : Int32) then
        (fX9_findDoing n0 (gR z48.2 130) x1_7 z48.2).bind fun z60 =>
        if z60.1 = (-1 : Int32) then
          (fX8_advance n0 z60.2).bind fun z89 =>
          some (x1_7, z89)
        else
          fX4_newName_67 n0 z60.2
      else
        fX4_newName_67 n0 z48.2
    else
      fX4_newName_67 n0 z36.2
  else
    (fX8_failHere n0 M).bind fun z25 =>
    some ((-1 : Int32), z25.2)
theorem tfX4_newName_67 (n0 : Nat) (hO : OKc p (rmL 4) s m args meth c LX D cy ad cX4_newName RX4 2 4 (some .int)) (M : Mem) : BL p l e (rmL 4) s m args below meth c LX D cy ad 2 (QI LX D cy ad) 67 [(0, .ref (ad 1))] [] M (fX4_newName_67 n0 M) := by
  unfold fX4_newName_67
  refine b_aload_n hO dX4_newName_67 0 rfl rfl ?_
  refine b_get hO flX4_14 kLX_1 (v := .ref (ad 3)) rfl dX4_newName_68 ?_
  refine b_iconst hO dX4_newName_71 ic_i_2 ?_
  refine b_aload_n hO dX4_newName_72 0 rfl rfl ?_
  refine b_get hO flX4_14 kLX_1 (v := .ref (ad 3)) rfl dX4_newName_73 ?_
  refine b_get hO flX4_60 kLX_3 (v := .int (gI _ 387)) rfl dX4_newName_76 ?_
  refine b_callVI hO mdX8_fail mvX8_fail w741 (ci := 8) rfl rfl (by decide) kLX_3 (As := [.int _, .int _]) (st := []) (ctX8_fail n0 hO.2.2.2.2.2.2.1 _ _ _) (Nat.le_of_ble_eq_true rfl) rfl rfl (Nat.le_of_ble_eq_true rfl) dX4_newName_79 (fun z79 => ?_)
  refine b_pop hO dX4_newName_82 rfl ?_
  refine b_iconst hO dX4_newName_83 ic_i_m1 ?_
  exact b_iret hO dX4_newName_84
theorem tfX4_newName (n0 : Nat) (hO : OKc p (rmL 4) s m args meth c LX D cy ad cX4_newName RX4 2 4 (some .int)) (M : Mem) : BL p l e (rmL 4) s m args below meth c LX D cy ad 2 (QI LX D cy ad) 0 [(0, .ref (ad 1))] [] M (fX4_newName n0 M) := by
  unfold fX4_newName
  refine b_aload_n hO dX4_newName_0 0 rfl rfl ?_
  refine b_get hO flX4_14 kLX_1 (v := .ref (ad 3)) rfl dX4_newName_1 ?_
  refine b_get hO flX4_151 kLX_3 (v := .int (gI _ 389)) rfl dX4_newName_4 ?_
  refine b_topI (fun x1_7 => ?_)
  refine b_istore_n hO dX4_newName_7 rfl (by decide) (lv' := [(1, .int _), (0, .ref _)]) rfl ?_
  refine b_aload_n hO dX4_newName_8 1 rfl rfl ?_
  refine b_get hO flX4_14 kLX_1 (v := .ref (ad 3)) rfl dX4_newName_9 ?_
  refine b_get hO flX4_45 kLX_3 (v := .int (gI _ 386)) rfl dX4_newName_12 ?_
  refine b_sipush hO dX4_newName_15 ic_s_257 ?_
  refine b_icmp_eq hO dX4_newName_18 (tgt := 31) (by decide) ?_ ?_
  · refine b_aload_n hO dX4_newName_31 1 rfl rfl ?_
    refine b_getR hO flX4_35 kLX_1 (id := 130) rfl rfl (rk := 9) rfl (by decide) dX4_newName_32 (fun hg1 => ?_)
    refine b_iload_n hO dX4_newName_35 0 rfl rfl ?_
    refine b_callVI hO mdX9_findThing mvX9_findThing w759 (ci := 9) rfl rfl (by decide) hg1 (As := [.int _]) (st := []) (ctX9_findThing n0 _ hg1 hO.2.2.2.2.2.2.1 _ _) (Nat.le_of_ble_eq_true rfl) rfl rfl (Nat.le_of_ble_eq_true rfl) dX4_newName_36 (fun z36 => ?_)
    refine b_iconst hO dX4_newName_39 ic_i_m1 ?_
    refine b_icmp_ne hO dX4_newName_40 (tgt := 67) (by decide) ?_ ?_
    · refine b_sub [1] rfl ?_
      exact tfX4_newName_67 n0 hO _
    · refine b_aload_n hO dX4_newName_43 1 rfl rfl ?_
      refine b_getR hO flX4_35 kLX_1 (id := 130) rfl rfl (rk := 9) rfl (by decide) dX4_newName_44 (fun hg2 => ?_)
      refine b_iload_n hO dX4_newName_47 0 rfl rfl ?_
      refine b_callVI hO mdX9_findCorner mvX9_findCorner w766 (ci := 9) rfl rfl (by decide) hg2 (As := [.int _]) (st := []) (ctX9_findCorner n0 _ hg2 hO.2.2.2.2.2.2.1 _ _) (Nat.le_of_ble_eq_true rfl) rfl rfl (Nat.le_of_ble_eq_true rfl) dX4_newName_48 (fun z48 => ?_)
      refine b_iconst hO dX4_newName_51 ic_i_m1 ?_
      refine b_icmp_ne hO dX4_newName_52 (tgt := 67) (by decide) ?_ ?_
      · refine b_sub [1] rfl ?_
        exact tfX4_newName_67 n0 hO _
      · refine b_aload_n hO dX4_newName_55 1 rfl rfl ?_
        refine b_getR hO flX4_35 kLX_1 (id := 130) rfl rfl (rk := 9) rfl (by decide) dX4_newName_56 (fun hg3 => ?_)
        refine b_iload_n hO dX4_newName_59 0 rfl rfl ?_
        refine b_callVI hO mdX9_findDoing mvX9_findDoing w770 (ci := 9) rfl rfl (by decide) hg3 (As := [.int _]) (st := []) (ctX9_findDoing n0 _ hg3 hO.2.2.2.2.2.2.1 _ _) (Nat.le_of_ble_eq_true rfl) rfl rfl (Nat.le_of_ble_eq_true rfl) dX4_newName_60 (fun z60 => ?_)
        refine b_iconst hO dX4_newName_63 ic_i_m1 ?_
        refine b_icmp_eq hO dX4_newName_64 (tgt := 85) (by decide) ?_ ?_
        · refine b_aload_n hO dX4_newName_85 1 rfl rfl ?_
          refine b_get hO flX4_14 kLX_1 (v := .ref (ad 3)) rfl dX4_newName_86 ?_
          refine b_callVV hO mdX8_advance mvX8_advance w745 (ci := 8) rfl rfl (by decide) kLX_3 (As := []) (st := []) (ctX8_advance n0 hO.2.2.2.2.2.2.1 _) (Nat.le_of_ble_eq_true rfl) rfl rfl (Nat.le_of_ble_eq_true rfl) dX4_newName_89 (fun z89 => ?_)
          refine b_iload_n hO dX4_newName_92 0 rfl rfl ?_
          exact b_iret hO dX4_newName_93
        · refine b_sub [1] rfl ?_
          exact tfX4_newName_67 n0 hO _
  · refine b_aload_n hO dX4_newName_21 1 rfl rfl ?_
    refine b_get hO flX4_14 kLX_1 (v := .ref (ad 3)) rfl dX4_newName_22 ?_
    refine b_callVI hO mdX8_failHere mvX8_failHere w754 (ci := 8) rfl rfl (by decide) kLX_3 (As := []) (st := []) (ctX8_failHere n0 hO.2.2.2.2.2.2.1 _) (Nat.le_of_ble_eq_true rfl) rfl rfl (Nat.le_of_ble_eq_true rfl) dX4_newName_25 (fun z25 => ?_)
    refine b_pop hO dX4_newName_28 rfl ?_
    refine b_iconst hO dX4_newName_29 ic_i_m1 ?_
    exact b_iret hO dX4_newName_30
theorem ctX4_newName (n0 : Nat) (hI : Inj LX ad) (M : Mem) : CT l LX D cy ad yX4_newName cX4_newName 2 (some .int) 4 (QI LX D cy ad) [.ref (ad 1)] M (fX4_newName n0 M) :=
  CT.mk LXok hI (by decide) (Nat.le_of_ble_eq_true rfl) (fun hO => tfX4_newName n0 hO M)
/-! X4_number -/
def fX4_number_41 (n0 : Nat) (M : Mem) : Option (Int32 × Mem) :=
  (fX8_fail n0 (4 : Int32) (gI M 387) M).bind fun z53 =>
  some ((-1 : Int32), z53.2)
def fX4_number (n0 : Nat) (x1 : Int32) (x2 : Int32) (M : Mem) : Option (Int32 × Mem) :=
  bnd (gI M 389) fun x3_7 =>
  if (gI M 386) = (256 : Int32) then
    if x3_7 < x1 then
      fX4_number_41 n0 M
    else
      if x3_7 ≤ x2 then
        (fX8_advance n0 M).bind fun z63 =>
        some (x3_7, z63)
      else
        fX4_number_41 n0 M
  else
    (fX8_failHere n0 M).bind fun z25 =>
    some ((-1 : Int32), z25.2)
theorem tfX4_number_41 (n0 : Nat) (hO : OKc p (rmL 4) s m args meth c LX D cy ad cX4_number RX4 4 4 (some .int)) (M : Mem) : BL p l e (rmL 4) s m args below meth c LX D cy ad 4 (QI LX D cy ad) 41 [(0, .ref (ad 1))] [] M (fX4_number_41 n0 M) := by
  unfold fX4_number_41
  refine b_aload_n hO dX4_number_41 0 rfl rfl ?_
  refine b_get hO flX4_14 kLX_1 (v := .ref (ad 3)) rfl dX4_number_42 ?_
  refine b_iconst hO dX4_number_45 ic_i_4 ?_
  refine b_aload_n hO dX4_number_46 0 rfl rfl ?_
  refine b_get hO flX4_14 kLX_1 (v := .ref (ad 3)) rfl dX4_number_47 ?_
  refine b_get hO flX4_60 kLX_3 (v := .int (gI _ 387)) rfl dX4_number_50 ?_
  refine b_callVI hO mdX8_fail mvX8_fail w741 (ci := 8) rfl rfl (by decide) kLX_3 (As := [.int _, .int _]) (st := []) (ctX8_fail n0 hO.2.2.2.2.2.2.1 _ _ _) (Nat.le_of_ble_eq_true rfl) rfl rfl (Nat.le_of_ble_eq_true rfl) dX4_number_53 (fun z53 => ?_)
  refine b_pop hO dX4_number_56 rfl ?_
  refine b_iconst hO dX4_number_57 ic_i_m1 ?_
  exact b_iret hO dX4_number_58
theorem tfX4_number (n0 : Nat) (hO : OKc p (rmL 4) s m args meth c LX D cy ad cX4_number RX4 4 4 (some .int)) (x1 : Int32) (x2 : Int32) (M : Mem) : BL p l e (rmL 4) s m args below meth c LX D cy ad 4 (QI LX D cy ad) 0 [(0, .ref (ad 1)), (1, .int x1), (2, .int x2)] [] M (fX4_number n0 x1 x2 M) := by
  unfold fX4_number
  refine b_aload_n hO dX4_number_0 0 rfl rfl ?_
  refine b_get hO flX4_14 kLX_1 (v := .ref (ad 3)) rfl dX4_number_1 ?_
  refine b_get hO flX4_151 kLX_3 (v := .int (gI _ 389)) rfl dX4_number_4 ?_
  refine b_topI (fun x3_7 => ?_)
  refine b_istore_n hO dX4_number_7 rfl (by decide) (lv' := [(3, .int _), (0, .ref _), (1, .int _), (2, .int _)]) rfl ?_
  refine b_aload_n hO dX4_number_8 1 rfl rfl ?_
  refine b_get hO flX4_14 kLX_1 (v := .ref (ad 3)) rfl dX4_number_9 ?_
  refine b_get hO flX4_45 kLX_3 (v := .int (gI _ 386)) rfl dX4_number_12 ?_
  refine b_sipush hO dX4_number_15 ic_s_256 ?_
  refine b_icmp_eq hO dX4_number_18 (tgt := 31) (by decide) ?_ ?_
  · refine b_iload_n hO dX4_number_31 0 rfl rfl ?_
    refine b_iload_n hO dX4_number_32 2 rfl rfl ?_
    refine b_icmp_lt hO dX4_number_33 (tgt := 41) (by decide) ?_ ?_
    · refine b_sub [1] rfl ?_
      exact tfX4_number_41 n0 hO _
    · refine b_iload_n hO dX4_number_36 0 rfl rfl ?_
      refine b_iload_n hO dX4_number_37 3 rfl rfl ?_
      refine b_icmp_le hO dX4_number_38 (tgt := 59) (by decide) ?_ ?_
      · refine b_aload_n hO dX4_number_59 1 rfl rfl ?_
        refine b_get hO flX4_14 kLX_1 (v := .ref (ad 3)) rfl dX4_number_60 ?_
        refine b_callVV hO mdX8_advance mvX8_advance w745 (ci := 8) rfl rfl (by decide) kLX_3 (As := []) (st := []) (ctX8_advance n0 hO.2.2.2.2.2.2.1 _) (Nat.le_of_ble_eq_true rfl) rfl rfl (Nat.le_of_ble_eq_true rfl) dX4_number_63 (fun z63 => ?_)
        refine b_iload_n hO dX4_number_66 0 rfl rfl ?_
        exact b_iret hO dX4_number_67
      · refine b_sub [1] rfl ?_
        exact tfX4_number_41 n0 hO _
  · refine b_aload_n hO dX4_number_21 1 rfl rfl ?_
    refine b_get hO flX4_14 kLX_1 (v := .ref (ad 3)) rfl dX4_number_22 ?_
    refine b_callVI hO mdX8_failHere mvX8_failHere w754 (ci := 8) rfl rfl (by decide) kLX_3 (As := []) (st := []) (ctX8_failHere n0 hO.2.2.2.2.2.2.1 _) (Nat.le_of_ble_eq_true rfl) rfl rfl (Nat.le_of_ble_eq_true rfl) dX4_number_25 (fun z25 => ?_)
    refine b_pop hO dX4_number_28 rfl ?_
    refine b_iconst hO dX4_number_29 ic_i_m1 ?_
    exact b_iret hO dX4_number_30
theorem ctX4_number (n0 : Nat) (hI : Inj LX ad) (x1 : Int32) (x2 : Int32) (M : Mem) : CT l LX D cy ad yX4_number cX4_number 4 (some .int) 4 (QI LX D cy ad) [.ref (ad 1), .int x1, .int x2] M (fX4_number n0 x1 x2 M) :=
  CT.mk LXok hI (by decide) (Nat.le_of_ble_eq_true rfl) (fun hO => tfX4_number n0 hO x1 x2 M)
/-! X4_readThing -/
def fX4_readThing (n0 : Nat) (M : Mem) : Option (Int32 × Mem) :=
  (fX4_newName n0 M).bind fun z1 =>
  if z1.1 = (-1 : Int32) then
    some ((0 : Int32), z1.2)
  else
    (fX8_skip n0 (261 : Int32) z1.2).bind fun z17 =>
    if z17.1 = 0 then
      some ((0 : Int32), z17.2)
    else
      (fX4_number n0 (0 : Int32) (99 : Int32) z17.2).bind fun z29 =>
      if z29.1 = (-1 : Int32) then
        some ((0 : Int32), z29.2)
      else
        (fX8_skip n0 (262 : Int32) z29.2).bind fun z45 =>
        if z45.1 = 0 then
          some ((0 : Int32), z45.2)
        else
          (fX4_number n0 (1 : Int32) (99 : Int32) z45.2).bind fun z57 =>
          if z57.1 = (-1 : Int32) then
            some ((0 : Int32), z57.2)
          else
            (fX9_addThing n0 (gR z57.2 130) z1.1 z29.1 z57.1 z57.2).bind fun z75 =>
            some ((1 : Int32), z75)
theorem tfX4_readThing (n0 : Nat) (hO : OKc p (rmL 5) s m args meth c LX D cy ad cX4_readThing RX4 4 5 (some .boolean)) (M : Mem) : BL p l e (rmL 5) s m args below meth c LX D cy ad 4 (QI LX D cy ad) 0 [(0, .ref (ad 1))] [] M (fX4_readThing n0 M) := by
  unfold fX4_readThing
  refine b_aload_n hO dX4_readThing_0 0 rfl rfl ?_
  refine b_callVI hO mdX4_newName mvX4_newName w750 (ci := 4) rfl rfl (by decide) kLX_1 (As := []) (st := []) (ctX4_newName n0 hO.2.2.2.2.2.2.1 _) (Nat.le_of_ble_eq_true rfl) rfl rfl (Nat.le_of_ble_eq_true rfl) dX4_readThing_1 (fun z1 => ?_)
  refine b_istore_n hO dX4_readThing_4 rfl (by decide) (lv' := [(1, .int _), (0, .ref _)]) rfl ?_
  refine b_iload_n hO dX4_readThing_5 0 rfl rfl ?_
  refine b_iconst hO dX4_readThing_6 ic_i_m1 ?_
  refine b_icmp_eq hO dX4_readThing_7 (tgt := 23) (by decide) ?_ ?_
  · refine b_iconst hO dX4_readThing_23 ic_i_0 ?_
    exact b_zretc hO (Or.inl rfl) dX4_readThing_24
  · refine b_aload_n hO dX4_readThing_10 1 rfl rfl ?_
    refine b_get hO flX4_14 kLX_1 (v := .ref (ad 3)) rfl dX4_readThing_11 ?_
    refine b_sipush hO dX4_readThing_14 ic_s_261 ?_
    refine b_callVI hO mdX8_skip mvX8_skip w774 (ci := 8) rfl rfl (by decide) kLX_3 (As := [.int _]) (st := []) (ctX8_skip n0 hO.2.2.2.2.2.2.1 _ _) (Nat.le_of_ble_eq_true rfl) rfl rfl (Nat.le_of_ble_eq_true rfl) dX4_readThing_17 (fun z17 => ?_)
    refine b_if_ne hO dX4_readThing_20 (tgt := 25) (by decide) ?_ ?_
    · refine b_aload_n hO dX4_readThing_25 1 rfl rfl ?_
      refine b_iconst hO dX4_readThing_26 ic_i_0 ?_
      refine b_bipush hO dX4_readThing_27 ic_b_99 ?_
      refine b_callVI hO mdX4_number mvX4_number w779 (ci := 4) rfl rfl (by decide) kLX_1 (As := [.int _, .int _]) (st := []) (ctX4_number n0 hO.2.2.2.2.2.2.1 _ _ _) (Nat.le_of_ble_eq_true rfl) rfl rfl (Nat.le_of_ble_eq_true rfl) dX4_readThing_29 (fun z29 => ?_)
      refine b_istore_n hO dX4_readThing_32 rfl (by decide) (lv' := [(2, .int _), (1, .int _), (0, .ref _)]) rfl ?_
      refine b_iload_n hO dX4_readThing_33 0 rfl rfl ?_
      refine b_iconst hO dX4_readThing_34 ic_i_m1 ?_
      refine b_icmp_eq hO dX4_readThing_35 (tgt := 51) (by decide) ?_ ?_
      · refine b_iconst hO dX4_readThing_51 ic_i_0 ?_
        exact b_zretc hO (Or.inl rfl) dX4_readThing_52
      · refine b_aload_n hO dX4_readThing_38 2 rfl rfl ?_
        refine b_get hO flX4_14 kLX_1 (v := .ref (ad 3)) rfl dX4_readThing_39 ?_
        refine b_sipush hO dX4_readThing_42 ic_s_262 ?_
        refine b_callVI hO mdX8_skip mvX8_skip w774 (ci := 8) rfl rfl (by decide) kLX_3 (As := [.int _]) (st := []) (ctX8_skip n0 hO.2.2.2.2.2.2.1 _ _) (Nat.le_of_ble_eq_true rfl) rfl rfl (Nat.le_of_ble_eq_true rfl) dX4_readThing_45 (fun z45 => ?_)
        refine b_if_ne hO dX4_readThing_48 (tgt := 53) (by decide) ?_ ?_
        · refine b_aload_n hO dX4_readThing_53 2 rfl rfl ?_
          refine b_iconst hO dX4_readThing_54 ic_i_1 ?_
          refine b_bipush hO dX4_readThing_55 ic_b_99 ?_
          refine b_callVI hO mdX4_number mvX4_number w779 (ci := 4) rfl rfl (by decide) kLX_1 (As := [.int _, .int _]) (st := []) (ctX4_number n0 hO.2.2.2.2.2.2.1 _ _ _) (Nat.le_of_ble_eq_true rfl) rfl rfl (Nat.le_of_ble_eq_true rfl) dX4_readThing_57 (fun z57 => ?_)
          refine b_istore_n hO dX4_readThing_60 rfl (by decide) (lv' := [(3, .int _), (2, .int _), (1, .int _), (0, .ref _)]) rfl ?_
          refine b_iload_n hO dX4_readThing_61 0 rfl rfl ?_
          refine b_iconst hO dX4_readThing_62 ic_i_m1 ?_
          refine b_icmp_ne hO dX4_readThing_63 (tgt := 68) (by decide) ?_ ?_
          · refine b_aload_n hO dX4_readThing_68 3 rfl rfl ?_
            refine b_getR hO flX4_35 kLX_1 (id := 130) rfl rfl (rk := 9) rfl (by decide) dX4_readThing_69 (fun hg1 => ?_)
            refine b_iload_n hO dX4_readThing_72 2 rfl rfl ?_
            refine b_iload_n hO dX4_readThing_73 1 rfl rfl ?_
            refine b_iload_n hO dX4_readThing_74 0 rfl rfl ?_
            refine b_callVV hO mdX9_addThing mvX9_addThing w783 (ci := 9) rfl rfl (by decide) hg1 (As := [.int _, .int _, .int _]) (st := []) (ctX9_addThing n0 _ hg1 hO.2.2.2.2.2.2.1 _ _ _ _) (Nat.le_of_ble_eq_true rfl) rfl rfl (Nat.le_of_ble_eq_true rfl) dX4_readThing_75 (fun z75 => ?_)
            refine b_iconst hO dX4_readThing_78 ic_i_1 ?_
            exact b_zretc hO (Or.inr rfl) dX4_readThing_79
          · refine b_iconst hO dX4_readThing_66 ic_i_0 ?_
            exact b_zretc hO (Or.inl rfl) dX4_readThing_67
        · refine b_iconst hO dX4_readThing_51 ic_i_0 ?_
          exact b_zretc hO (Or.inl rfl) dX4_readThing_52
    · refine b_iconst hO dX4_readThing_23 ic_i_0 ?_
      exact b_zretc hO (Or.inl rfl) dX4_readThing_24
theorem ctX4_readThing (n0 : Nat) (hI : Inj LX ad) (M : Mem) : CT l LX D cy ad yX4_readThing cX4_readThing 4 (some .boolean) 5 (QI LX D cy ad) [.ref (ad 1)] M (fX4_readThing n0 M) :=
  CT.mk LXok hI (by decide) (Nat.le_of_ble_eq_true rfl) (fun hO => tfX4_readThing n0 hO M)
/-! X4_readCorner -/
def fX4_readCorner (n0 : Nat) (M : Mem) : Option (Int32 × Mem) :=
  (fX4_newName n0 M).bind fun z1 =>
  if z1.1 = (-1 : Int32) then
    some ((0 : Int32), z1.2)
  else
    (fX9_addCorner n0 (gR z1.2 130) z1.1 z1.2).bind fun z17 =>
    some ((1 : Int32), z17)
theorem tfX4_readCorner (n0 : Nat) (hO : OKc p (rmL 5) s m args meth c LX D cy ad cX4_readCorner RX4 2 5 (some .boolean)) (M : Mem) : BL p l e (rmL 5) s m args below meth c LX D cy ad 2 (QI LX D cy ad) 0 [(0, .ref (ad 1))] [] M (fX4_readCorner n0 M) := by
  unfold fX4_readCorner
  refine b_aload_n hO dX4_readCorner_0 0 rfl rfl ?_
  refine b_callVI hO mdX4_newName mvX4_newName w750 (ci := 4) rfl rfl (by decide) kLX_1 (As := []) (st := []) (ctX4_newName n0 hO.2.2.2.2.2.2.1 _) (Nat.le_of_ble_eq_true rfl) rfl rfl (Nat.le_of_ble_eq_true rfl) dX4_readCorner_1 (fun z1 => ?_)
  refine b_istore_n hO dX4_readCorner_4 rfl (by decide) (lv' := [(1, .int _), (0, .ref _)]) rfl ?_
  refine b_iload_n hO dX4_readCorner_5 0 rfl rfl ?_
  refine b_iconst hO dX4_readCorner_6 ic_i_m1 ?_
  refine b_icmp_ne hO dX4_readCorner_7 (tgt := 12) (by decide) ?_ ?_
  · refine b_aload_n hO dX4_readCorner_12 1 rfl rfl ?_
    refine b_getR hO flX4_35 kLX_1 (id := 130) rfl rfl (rk := 9) rfl (by decide) dX4_readCorner_13 (fun hg1 => ?_)
    refine b_iload_n hO dX4_readCorner_16 0 rfl rfl ?_
    refine b_callVV hO mdX9_addCorner mvX9_addCorner w791 (ci := 9) rfl rfl (by decide) hg1 (As := [.int _]) (st := []) (ctX9_addCorner n0 _ hg1 hO.2.2.2.2.2.2.1 _ _) (Nat.le_of_ble_eq_true rfl) rfl rfl (Nat.le_of_ble_eq_true rfl) dX4_readCorner_17 (fun z17 => ?_)
    refine b_iconst hO dX4_readCorner_20 ic_i_1 ?_
    exact b_zretc hO (Or.inr rfl) dX4_readCorner_21
  · refine b_iconst hO dX4_readCorner_10 ic_i_0 ?_
    exact b_zretc hO (Or.inl rfl) dX4_readCorner_11
theorem ctX4_readCorner (n0 : Nat) (hI : Inj LX ad) (M : Mem) : CT l LX D cy ad yX4_readCorner cX4_readCorner 2 (some .boolean) 5 (QI LX D cy ad) [.ref (ad 1)] M (fX4_readCorner n0 M) :=
  CT.mk LXok hI (by decide) (Nat.le_of_ble_eq_true rfl) (fun hO => tfX4_readCorner n0 hO M)
/-! X4_cornerHere -/
def fX4_cornerHere (n0 : Nat) (M : Mem) : Option (Int32 × Mem) :=
  if (gI M 386) = (257 : Int32) then
    (fX9_findCorner n0 (gR M 130) (gI M 389) M).bind fun z34 =>
    if z34.1 = (-1 : Int32) then
      (fX8_fail n0 (3 : Int32) (gI z34.2 387) z34.2).bind fun z55 =>
      some (z34.1, z55.2)
    else
      some (z34.1, z34.2)
  else
    (fX8_failHere n0 M).bind fun z17 =>
    some ((-1 : Int32), z17.2)
theorem tfX4_cornerHere (n0 : Nat) (hO : OKc p (rmL 3) s m args meth c LX D cy ad cX4_cornerHere RX4 2 3 (some .int)) (M : Mem) : BL p l e (rmL 3) s m args below meth c LX D cy ad 2 (QI LX D cy ad) 0 [(0, .ref (ad 1))] [] M (fX4_cornerHere n0 M) := by
  unfold fX4_cornerHere
  refine b_aload_n hO dX4_cornerHere_0 0 rfl rfl ?_
  refine b_get hO flX4_14 kLX_1 (v := .ref (ad 3)) rfl dX4_cornerHere_1 ?_
  refine b_get hO flX4_45 kLX_3 (v := .int (gI _ 386)) rfl dX4_cornerHere_4 ?_
  refine b_sipush hO dX4_cornerHere_7 ic_s_257 ?_
  refine b_icmp_eq hO dX4_cornerHere_10 (tgt := 23) (by decide) ?_ ?_
  · refine b_aload_n hO dX4_cornerHere_23 0 rfl rfl ?_
    refine b_getR hO flX4_35 kLX_1 (id := 130) rfl rfl (rk := 9) rfl (by decide) dX4_cornerHere_24 (fun hg1 => ?_)
    refine b_aload_n hO dX4_cornerHere_27 0 rfl rfl ?_
    refine b_get hO flX4_14 kLX_1 (v := .ref (ad 3)) rfl dX4_cornerHere_28 ?_
    refine b_get hO flX4_151 kLX_3 (v := .int (gI _ 389)) rfl dX4_cornerHere_31 ?_
    refine b_callVI hO mdX9_findCorner mvX9_findCorner w766 (ci := 9) rfl rfl (by decide) hg1 (As := [.int _]) (st := []) (ctX9_findCorner n0 _ hg1 hO.2.2.2.2.2.2.1 _ _) (Nat.le_of_ble_eq_true rfl) rfl rfl (Nat.le_of_ble_eq_true rfl) dX4_cornerHere_34 (fun z34 => ?_)
    refine b_istore_n hO dX4_cornerHere_37 rfl (by decide) (lv' := [(1, .int _), (0, .ref _)]) rfl ?_
    refine b_iload_n hO dX4_cornerHere_38 0 rfl rfl ?_
    refine b_iconst hO dX4_cornerHere_39 ic_i_m1 ?_
    refine b_icmp_ne hO dX4_cornerHere_40 (tgt := 59) (by decide) ?_ ?_
    · refine b_iload_n hO dX4_cornerHere_59 0 rfl rfl ?_
      exact b_iret hO dX4_cornerHere_60
    · refine b_aload_n hO dX4_cornerHere_43 1 rfl rfl ?_
      refine b_get hO flX4_14 kLX_1 (v := .ref (ad 3)) rfl dX4_cornerHere_44 ?_
      refine b_iconst hO dX4_cornerHere_47 ic_i_3 ?_
      refine b_aload_n hO dX4_cornerHere_48 1 rfl rfl ?_
      refine b_get hO flX4_14 kLX_1 (v := .ref (ad 3)) rfl dX4_cornerHere_49 ?_
      refine b_get hO flX4_60 kLX_3 (v := .int (gI _ 387)) rfl dX4_cornerHere_52 ?_
      refine b_callVI hO mdX8_fail mvX8_fail w741 (ci := 8) rfl rfl (by decide) kLX_3 (As := [.int _, .int _]) (st := []) (ctX8_fail n0 hO.2.2.2.2.2.2.1 _ _ _) (Nat.le_of_ble_eq_true rfl) rfl rfl (Nat.le_of_ble_eq_true rfl) dX4_cornerHere_55 (fun z55 => ?_)
      refine b_pop hO dX4_cornerHere_58 rfl ?_
      refine b_iload_n hO dX4_cornerHere_59 0 rfl rfl ?_
      exact b_iret hO dX4_cornerHere_60
  · refine b_aload_n hO dX4_cornerHere_13 0 rfl rfl ?_
    refine b_get hO flX4_14 kLX_1 (v := .ref (ad 3)) rfl dX4_cornerHere_14 ?_
    refine b_callVI hO mdX8_failHere mvX8_failHere w754 (ci := 8) rfl rfl (by decide) kLX_3 (As := []) (st := []) (ctX8_failHere n0 hO.2.2.2.2.2.2.1 _) (Nat.le_of_ble_eq_true rfl) rfl rfl (Nat.le_of_ble_eq_true rfl) dX4_cornerHere_17 (fun z17 => ?_)
    refine b_pop hO dX4_cornerHere_20 rfl ?_
    refine b_iconst hO dX4_cornerHere_21 ic_i_m1 ?_
    exact b_iret hO dX4_cornerHere_22
theorem ctX4_cornerHere (n0 : Nat) (hI : Inj LX ad) (M : Mem) : CT l LX D cy ad yX4_cornerHere cX4_cornerHere 2 (some .int) 3 (QI LX D cy ad) [.ref (ad 1)] M (fX4_cornerHere n0 M) :=
  CT.mk LXok hI (by decide) (Nat.le_of_ble_eq_true rfl) (fun hO => tfX4_cornerHere n0 hO M)
/-! X4_readRoad -/
def fX4_readRoad_63 (n0 : Nat) (M : Mem) : Option (Int32 × Mem) :=
  (fX8_fail n0 (3 : Int32) (gI M 387) M).bind fun z75 =>
  if z75.1 = 0 ∨ z75.1 = 1 then some (z75.1, z75.2) else none
def fX4_readRoad_110 (n0 : Nat) (x1 : Int32) (x2 : Int32) (u0 : Int32) (M : Mem) : Option (Int32 × Mem) :=
  if u0 = (-1 : Int32) then
    some ((0 : Int32), M)
  else
    (fX9_addRoad n0 (gR M 130) x1 x2 u0 M).bind fun z125 =>
    some ((1 : Int32), z125)
def fX4_readRoad (n0 : Nat) (M : Mem) : Option (Int32 × Mem) :=
  (fX4_cornerHere n0 M).bind fun z1 =>
  if z1.1 = (-1 : Int32) then
    some ((0 : Int32), z1.2)
  else
    (fX8_advance n0 z1.2).bind fun z16 =>
    (fX8_skip n0 (265 : Int32) z16).bind fun z26 =>
    if z26.1 = 0 then
      some ((0 : Int32), z26.2)
    else
      (fX4_cornerHere n0 z26.2).bind fun z35 =>
      if z35.1 = (-1 : Int32) then
        some ((0 : Int32), z35.2)
      else
        if z35.1 = z1.1 then
          fX4_readRoad_63 n0 z35.2
        else
          (fX9_hasRoad n0 (gR z35.2 130) z1.1 z35.1 z35.2).bind fun z57 =>
          if z57.1 = 0 then
            (fX8_advance n0 z57.2).bind fun z83 =>
            (fX8_skip n0 (266 : Int32) z83).bind fun z93 =>
            if z93.1 = 0 then
              fX4_readRoad_110 n0 z1.1 z35.1 (-1 : Int32) z93.2
            else
              (fX4_number n0 (1 : Int32) (30 : Int32) z93.2).bind fun z103 =>
              fX4_readRoad_110 n0 z1.1 z35.1 z103.1 z103.2
          else
            fX4_readRoad_63 n0 z57.2
theorem tfX4_readRoad_63 (n0 : Nat) (hO : OKc p (rmL 5) s m args meth c LX D cy ad cX4_readRoad RX4 4 5 (some .boolean)) (M : Mem) : BL p l e (rmL 5) s m args below meth c LX D cy ad 4 (QI LX D cy ad) 63 [(0, .ref (ad 1))] [] M (fX4_readRoad_63 n0 M) := by
  unfold fX4_readRoad_63
  refine b_aload_n hO dX4_readRoad_63 0 rfl rfl ?_
  refine b_get hO flX4_14 kLX_1 (v := .ref (ad 3)) rfl dX4_readRoad_64 ?_
  refine b_iconst hO dX4_readRoad_67 ic_i_3 ?_
  refine b_aload_n hO dX4_readRoad_68 0 rfl rfl ?_
  refine b_get hO flX4_14 kLX_1 (v := .ref (ad 3)) rfl dX4_readRoad_69 ?_
  refine b_get hO flX4_60 kLX_3 (v := .int (gI _ 387)) rfl dX4_readRoad_72 ?_
  refine b_callVI hO mdX8_fail mvX8_fail w741 (ci := 8) rfl rfl (by decide) kLX_3 (As := [.int _, .int _]) (st := []) (ctX8_fail n0 hO.2.2.2.2.2.2.1 _ _ _) (Nat.le_of_ble_eq_true rfl) rfl rfl (Nat.le_of_ble_eq_true rfl) dX4_readRoad_75 (fun z75 => ?_)
  exact b_zret hO dX4_readRoad_78
theorem tfX4_readRoad_110 (n0 : Nat) (hO : OKc p (rmL 5) s m args meth c LX D cy ad cX4_readRoad RX4 4 5 (some .boolean)) (x1 : Int32) (x2 : Int32) (u0 : Int32) (M : Mem) : BL p l e (rmL 5) s m args below meth c LX D cy ad 4 (QI LX D cy ad) 110 [(0, .ref (ad 1)), (1, .int x1), (2, .int x2)] [.int u0] M (fX4_readRoad_110 n0 x1 x2 u0 M) := by
  unfold fX4_readRoad_110
  refine b_istore_n hO dX4_readRoad_110 rfl (by decide) (lv' := [(3, .int _), (0, .ref _), (1, .int _), (2, .int _)]) rfl ?_
  refine b_iload_n hO dX4_readRoad_111 0 rfl rfl ?_
  refine b_iconst hO dX4_readRoad_112 ic_i_m1 ?_
  refine b_icmp_ne hO dX4_readRoad_113 (tgt := 118) (by decide) ?_ ?_
  · refine b_aload_n hO dX4_readRoad_118 1 rfl rfl ?_
    refine b_getR hO flX4_35 kLX_1 (id := 130) rfl rfl (rk := 9) rfl (by decide) dX4_readRoad_119 (fun hg1 => ?_)
    refine b_iload_n hO dX4_readRoad_122 2 rfl rfl ?_
    refine b_iload_n hO dX4_readRoad_123 3 rfl rfl ?_
    refine b_iload_n hO dX4_readRoad_124 0 rfl rfl ?_
    refine b_callVV hO mdX9_addRoad mvX9_addRoad w807 (ci := 9) rfl rfl (by decide) hg1 (As := [.int _, .int _, .int _]) (st := []) (ctX9_addRoad n0 _ hg1 hO.2.2.2.2.2.2.1 _ _ _ _) (Nat.le_of_ble_eq_true rfl) rfl rfl (Nat.le_of_ble_eq_true rfl) dX4_readRoad_125 (fun z125 => ?_)
    refine b_iconst hO dX4_readRoad_128 ic_i_1 ?_
    exact b_zretc hO (Or.inr rfl) dX4_readRoad_129
  · refine b_iconst hO dX4_readRoad_116 ic_i_0 ?_
    exact b_zretc hO (Or.inl rfl) dX4_readRoad_117
theorem tfX4_readRoad (n0 : Nat) (hO : OKc p (rmL 5) s m args meth c LX D cy ad cX4_readRoad RX4 4 5 (some .boolean)) (M : Mem) : BL p l e (rmL 5) s m args below meth c LX D cy ad 4 (QI LX D cy ad) 0 [(0, .ref (ad 1))] [] M (fX4_readRoad n0 M) := by
  unfold fX4_readRoad
  refine b_aload_n hO dX4_readRoad_0 0 rfl rfl ?_
  refine b_callVI hO mdX4_cornerHere mvX4_cornerHere w799 (ci := 4) rfl rfl (by decide) kLX_1 (As := []) (st := []) (ctX4_cornerHere n0 hO.2.2.2.2.2.2.1 _) (Nat.le_of_ble_eq_true rfl) rfl rfl (Nat.le_of_ble_eq_true rfl) dX4_readRoad_1 (fun z1 => ?_)
  refine b_istore_n hO dX4_readRoad_4 rfl (by decide) (lv' := [(1, .int _), (0, .ref _)]) rfl ?_
  refine b_iload_n hO dX4_readRoad_5 0 rfl rfl ?_
  refine b_iconst hO dX4_readRoad_6 ic_i_m1 ?_
  refine b_icmp_ne hO dX4_readRoad_7 (tgt := 12) (by decide) ?_ ?_
  · refine b_aload_n hO dX4_readRoad_12 1 rfl rfl ?_
    refine b_get hO flX4_14 kLX_1 (v := .ref (ad 3)) rfl dX4_readRoad_13 ?_
    refine b_callVV hO mdX8_advance mvX8_advance w745 (ci := 8) rfl rfl (by decide) kLX_3 (As := []) (st := []) (ctX8_advance n0 hO.2.2.2.2.2.2.1 _) (Nat.le_of_ble_eq_true rfl) rfl rfl (Nat.le_of_ble_eq_true rfl) dX4_readRoad_16 (fun z16 => ?_)
    refine b_aload_n hO dX4_readRoad_19 1 rfl rfl ?_
    refine b_get hO flX4_14 kLX_1 (v := .ref (ad 3)) rfl dX4_readRoad_20 ?_
    refine b_sipush hO dX4_readRoad_23 ic_s_265 ?_
    refine b_callVI hO mdX8_skip mvX8_skip w774 (ci := 8) rfl rfl (by decide) kLX_3 (As := [.int _]) (st := []) (ctX8_skip n0 hO.2.2.2.2.2.2.1 _ _) (Nat.le_of_ble_eq_true rfl) rfl rfl (Nat.le_of_ble_eq_true rfl) dX4_readRoad_26 (fun z26 => ?_)
    refine b_if_ne hO dX4_readRoad_29 (tgt := 34) (by decide) ?_ ?_
    · refine b_aload_n hO dX4_readRoad_34 1 rfl rfl ?_
      refine b_callVI hO mdX4_cornerHere mvX4_cornerHere w799 (ci := 4) rfl rfl (by decide) kLX_1 (As := []) (st := []) (ctX4_cornerHere n0 hO.2.2.2.2.2.2.1 _) (Nat.le_of_ble_eq_true rfl) rfl rfl (Nat.le_of_ble_eq_true rfl) dX4_readRoad_35 (fun z35 => ?_)
      refine b_istore_n hO dX4_readRoad_38 rfl (by decide) (lv' := [(2, .int _), (1, .int _), (0, .ref _)]) rfl ?_
      refine b_iload_n hO dX4_readRoad_39 0 rfl rfl ?_
      refine b_iconst hO dX4_readRoad_40 ic_i_m1 ?_
      refine b_icmp_ne hO dX4_readRoad_41 (tgt := 46) (by decide) ?_ ?_
      · refine b_iload_n hO dX4_readRoad_46 0 rfl rfl ?_
        refine b_iload_n hO dX4_readRoad_47 1 rfl rfl ?_
        refine b_icmp_eq hO dX4_readRoad_48 (tgt := 63) (by decide) ?_ ?_
        · refine b_sub [2] rfl ?_
          exact tfX4_readRoad_63 n0 hO _
        · refine b_aload_n hO dX4_readRoad_51 2 rfl rfl ?_
          refine b_getR hO flX4_35 kLX_1 (id := 130) rfl rfl (rk := 9) rfl (by decide) dX4_readRoad_52 (fun hg1 => ?_)
          refine b_iload_n hO dX4_readRoad_55 1 rfl rfl ?_
          refine b_iload_n hO dX4_readRoad_56 0 rfl rfl ?_
          refine b_callVI hO mdX9_hasRoad mvX9_hasRoad w803 (ci := 9) rfl rfl (by decide) hg1 (As := [.int _, .int _]) (st := []) (ctX9_hasRoad n0 _ hg1 hO.2.2.2.2.2.2.1 _ _ _) (Nat.le_of_ble_eq_true rfl) rfl rfl (Nat.le_of_ble_eq_true rfl) dX4_readRoad_57 (fun z57 => ?_)
          refine b_if_eq hO dX4_readRoad_60 (tgt := 79) (by decide) ?_ ?_
          · refine b_aload_n hO dX4_readRoad_79 2 rfl rfl ?_
            refine b_get hO flX4_14 kLX_1 (v := .ref (ad 3)) rfl dX4_readRoad_80 ?_
            refine b_callVV hO mdX8_advance mvX8_advance w745 (ci := 8) rfl rfl (by decide) kLX_3 (As := []) (st := []) (ctX8_advance n0 hO.2.2.2.2.2.2.1 _) (Nat.le_of_ble_eq_true rfl) rfl rfl (Nat.le_of_ble_eq_true rfl) dX4_readRoad_83 (fun z83 => ?_)
            refine b_aload_n hO dX4_readRoad_86 2 rfl rfl ?_
            refine b_get hO flX4_14 kLX_1 (v := .ref (ad 3)) rfl dX4_readRoad_87 ?_
            refine b_sipush hO dX4_readRoad_90 ic_s_266 ?_
            refine b_callVI hO mdX8_skip mvX8_skip w774 (ci := 8) rfl rfl (by decide) kLX_3 (As := [.int _]) (st := []) (ctX8_skip n0 hO.2.2.2.2.2.2.1 _ _) (Nat.le_of_ble_eq_true rfl) rfl rfl (Nat.le_of_ble_eq_true rfl) dX4_readRoad_93 (fun z93 => ?_)
            refine b_if_eq hO dX4_readRoad_96 (tgt := 109) (by decide) ?_ ?_
            · refine b_iconst hO dX4_readRoad_109 ic_i_m1 ?_
              refine b_sub [2, 1, 0] rfl ?_
              exact tfX4_readRoad_110 n0 hO _ _ _ _
            · refine b_aload_n hO dX4_readRoad_99 2 rfl rfl ?_
              refine b_iconst hO dX4_readRoad_100 ic_i_1 ?_
              refine b_bipush hO dX4_readRoad_101 ic_b_30 ?_
              refine b_callVI hO mdX4_number mvX4_number w779 (ci := 4) rfl rfl (by decide) kLX_1 (As := [.int _, .int _]) (st := []) (ctX4_number n0 hO.2.2.2.2.2.2.1 _ _ _) (Nat.le_of_ble_eq_true rfl) rfl rfl (Nat.le_of_ble_eq_true rfl) dX4_readRoad_103 (fun z103 => ?_)
              refine b_goto hO dX4_readRoad_106 (tgt := 110) (by decide) ?_
              refine b_sub [2, 1, 0] rfl ?_
              exact tfX4_readRoad_110 n0 hO _ _ _ _
          · refine b_sub [2] rfl ?_
            exact tfX4_readRoad_63 n0 hO _
      · refine b_iconst hO dX4_readRoad_44 ic_i_0 ?_
        exact b_zretc hO (Or.inl rfl) dX4_readRoad_45
    · refine b_iconst hO dX4_readRoad_32 ic_i_0 ?_
      exact b_zretc hO (Or.inl rfl) dX4_readRoad_33
  · refine b_iconst hO dX4_readRoad_10 ic_i_0 ?_
    exact b_zretc hO (Or.inl rfl) dX4_readRoad_11
theorem ctX4_readRoad (n0 : Nat) (hI : Inj LX ad) (M : Mem) : CT l LX D cy ad yX4_readRoad cX4_readRoad 4 (some .boolean) 5 (QI LX D cy ad) [.ref (ad 1)] M (fX4_readRoad n0 M) :=
  CT.mk LXok hI (by decide) (Nat.le_of_ble_eq_true rfl) (fun hO => tfX4_readRoad n0 hO M)
/-! X4_readPalm -/
def fX4_readPalm (n0 : Nat) (M : Mem) : Option (Int32 × Mem) :=
  (fX4_cornerHere n0 M).bind fun z1 =>
  if z1.1 = (-1 : Int32) then
    some ((0 : Int32), z1.2)
  else
    if oob z1.1 5 then none else
    if (gA z1.2 ((gR z1.2 130) + 5) (Int32.toNatClampNeg z1.1)) = (-1 : Int32) then
      (fX8_advance n0 z1.2).bind fun z45 =>
      (fX8_skip n0 (268 : Int32) z45).bind fun z55 =>
      if z55.1 = 0 then
        some ((0 : Int32), z55.2)
      else
        if (gI z55.2 386) = (257 : Int32) then
          (fX9_findThing n0 (gR z55.2 130) (gI z55.2 389) z55.2).bind fun z95 =>
          if z95.1 = (-1 : Int32) then
            (fX8_fail n0 (3 : Int32) (gI z95.2 387) z95.2).bind fun z116 =>
            if z116.1 = 0 ∨ z116.1 = 1 then some (z116.1, z116.2) else none
          else
            (fX8_advance n0 z95.2).bind fun z124 =>
            if oob z1.1 5 then none else
            bnd (sA z124 ((gR z124 130) + 5) (Int32.toNatClampNeg z1.1) z95.1) fun M136 =>
            some ((1 : Int32), M136)
        else
          (fX8_failHere n0 z55.2).bind fun z80 =>
          if z80.1 = 0 ∨ z80.1 = 1 then some (z80.1, z80.2) else none
    else
      (fX8_fail n0 (3 : Int32) (gI z1.2 387) z1.2).bind fun z37 =>
      if z37.1 = 0 ∨ z37.1 = 1 then some (z37.1, z37.2) else none
theorem tfX4_readPalm (n0 : Nat) (hO : OKc p (rmL 5) s m args meth c LX D cy ad cX4_readPalm RX4 3 5 (some .boolean)) (M : Mem) : BL p l e (rmL 5) s m args below meth c LX D cy ad 3 (QI LX D cy ad) 0 [(0, .ref (ad 1))] [] M (fX4_readPalm n0 M) := by
  unfold fX4_readPalm
  refine b_aload_n hO dX4_readPalm_0 0 rfl rfl ?_
  refine b_callVI hO mdX4_cornerHere mvX4_cornerHere w799 (ci := 4) rfl rfl (by decide) kLX_1 (As := []) (st := []) (ctX4_cornerHere n0 hO.2.2.2.2.2.2.1 _) (Nat.le_of_ble_eq_true rfl) rfl rfl (Nat.le_of_ble_eq_true rfl) dX4_readPalm_1 (fun z1 => ?_)
  refine b_istore_n hO dX4_readPalm_4 rfl (by decide) (lv' := [(1, .int _), (0, .ref _)]) rfl ?_
  refine b_iload_n hO dX4_readPalm_5 0 rfl rfl ?_
  refine b_iconst hO dX4_readPalm_6 ic_i_m1 ?_
  refine b_icmp_ne hO dX4_readPalm_7 (tgt := 12) (by decide) ?_ ?_
  · refine b_aload_n hO dX4_readPalm_12 1 rfl rfl ?_
    refine b_getR hO flX4_35 kLX_1 (id := 130) rfl rfl (rk := 9) rfl (by decide) dX4_readPalm_13 (fun hg1 => ?_)
    refine b_get hO flX4_147 hg1 (v := .ref (ad ((gR z1.2 130) + 5))) rfl dX4_readPalm_16 ?_
    refine b_iload_n hO dX4_readPalm_19 0 rfl rfl ?_
    refine b_iald hO (kt_9_5 hg1) (n := 5) (lt_9_5 hg1) dX4_readPalm_20 ?_
    refine b_iconst hO dX4_readPalm_21 ic_i_m1 ?_
    refine b_icmp_eq hO dX4_readPalm_22 (tgt := 41) (by decide) ?_ ?_
    · refine b_aload_n hO dX4_readPalm_41 1 rfl rfl ?_
      refine b_get hO flX4_14 kLX_1 (v := .ref (ad 3)) rfl dX4_readPalm_42 ?_
      refine b_callVV hO mdX8_advance mvX8_advance w745 (ci := 8) rfl rfl (by decide) kLX_3 (As := []) (st := []) (ctX8_advance n0 hO.2.2.2.2.2.2.1 _) (Nat.le_of_ble_eq_true rfl) rfl rfl (Nat.le_of_ble_eq_true rfl) dX4_readPalm_45 (fun z45 => ?_)
      refine b_aload_n hO dX4_readPalm_48 1 rfl rfl ?_
      refine b_get hO flX4_14 kLX_1 (v := .ref (ad 3)) rfl dX4_readPalm_49 ?_
      refine b_sipush hO dX4_readPalm_52 ic_s_268 ?_
      refine b_callVI hO mdX8_skip mvX8_skip w774 (ci := 8) rfl rfl (by decide) kLX_3 (As := [.int _]) (st := []) (ctX8_skip n0 hO.2.2.2.2.2.2.1 _ _) (Nat.le_of_ble_eq_true rfl) rfl rfl (Nat.le_of_ble_eq_true rfl) dX4_readPalm_55 (fun z55 => ?_)
      refine b_if_ne hO dX4_readPalm_58 (tgt := 63) (by decide) ?_ ?_
      · refine b_aload_n hO dX4_readPalm_63 1 rfl rfl ?_
        refine b_get hO flX4_14 kLX_1 (v := .ref (ad 3)) rfl dX4_readPalm_64 ?_
        refine b_get hO flX4_45 kLX_3 (v := .int (gI _ 386)) rfl dX4_readPalm_67 ?_
        refine b_sipush hO dX4_readPalm_70 ic_s_257 ?_
        refine b_icmp_eq hO dX4_readPalm_73 (tgt := 84) (by decide) ?_ ?_
        · refine b_aload_n hO dX4_readPalm_84 1 rfl rfl ?_
          refine b_getR hO flX4_35 kLX_1 (id := 130) rfl rfl (rk := 9) rfl (by decide) dX4_readPalm_85 (fun hg2 => ?_)
          refine b_aload_n hO dX4_readPalm_88 1 rfl rfl ?_
          refine b_get hO flX4_14 kLX_1 (v := .ref (ad 3)) rfl dX4_readPalm_89 ?_
          refine b_get hO flX4_151 kLX_3 (v := .int (gI _ 389)) rfl dX4_readPalm_92 ?_
          refine b_callVI hO mdX9_findThing mvX9_findThing w759 (ci := 9) rfl rfl (by decide) hg2 (As := [.int _]) (st := []) (ctX9_findThing n0 _ hg2 hO.2.2.2.2.2.2.1 _ _) (Nat.le_of_ble_eq_true rfl) rfl rfl (Nat.le_of_ble_eq_true rfl) dX4_readPalm_95 (fun z95 => ?_)
          refine b_istore_n hO dX4_readPalm_98 rfl (by decide) (lv' := [(2, .int _), (1, .int _), (0, .ref _)]) rfl ?_
          refine b_iload_n hO dX4_readPalm_99 0 rfl rfl ?_
          refine b_iconst hO dX4_readPalm_100 ic_i_m1 ?_
          refine b_icmp_ne hO dX4_readPalm_101 (tgt := 120) (by decide) ?_ ?_
          · refine b_aload_n hO dX4_readPalm_120 2 rfl rfl ?_
            refine b_get hO flX4_14 kLX_1 (v := .ref (ad 3)) rfl dX4_readPalm_121 ?_
            refine b_callVV hO mdX8_advance mvX8_advance w745 (ci := 8) rfl rfl (by decide) kLX_3 (As := []) (st := []) (ctX8_advance n0 hO.2.2.2.2.2.2.1 _) (Nat.le_of_ble_eq_true rfl) rfl rfl (Nat.le_of_ble_eq_true rfl) dX4_readPalm_124 (fun z124 => ?_)
            refine b_aload_n hO dX4_readPalm_127 2 rfl rfl ?_
            refine b_getR hO flX4_35 kLX_1 (id := 130) rfl rfl (rk := 9) rfl (by decide) dX4_readPalm_128 (fun hg3 => ?_)
            refine b_get hO flX4_147 hg3 (v := .ref (ad ((gR z124 130) + 5))) rfl dX4_readPalm_131 ?_
            refine b_iload_n hO dX4_readPalm_134 1 rfl rfl ?_
            refine b_iload_n hO dX4_readPalm_135 0 rfl rfl ?_
            refine b_iast hO (kt_9_5 hg3) (n := 5) (lt_9_5 hg3) dX4_readPalm_136 ?_
            refine b_bnd (fun M136 => ?_)
            refine b_iconst hO dX4_readPalm_137 ic_i_1 ?_
            exact b_zretc hO (Or.inr rfl) dX4_readPalm_138
          · refine b_aload_n hO dX4_readPalm_104 2 rfl rfl ?_
            refine b_get hO flX4_14 kLX_1 (v := .ref (ad 3)) rfl dX4_readPalm_105 ?_
            refine b_iconst hO dX4_readPalm_108 ic_i_3 ?_
            refine b_aload_n hO dX4_readPalm_109 2 rfl rfl ?_
            refine b_get hO flX4_14 kLX_1 (v := .ref (ad 3)) rfl dX4_readPalm_110 ?_
            refine b_get hO flX4_60 kLX_3 (v := .int (gI _ 387)) rfl dX4_readPalm_113 ?_
            refine b_callVI hO mdX8_fail mvX8_fail w741 (ci := 8) rfl rfl (by decide) kLX_3 (As := [.int _, .int _]) (st := []) (ctX8_fail n0 hO.2.2.2.2.2.2.1 _ _ _) (Nat.le_of_ble_eq_true rfl) rfl rfl (Nat.le_of_ble_eq_true rfl) dX4_readPalm_116 (fun z116 => ?_)
            exact b_zret hO dX4_readPalm_119
        · refine b_aload_n hO dX4_readPalm_76 1 rfl rfl ?_
          refine b_get hO flX4_14 kLX_1 (v := .ref (ad 3)) rfl dX4_readPalm_77 ?_
          refine b_callVI hO mdX8_failHere mvX8_failHere w754 (ci := 8) rfl rfl (by decide) kLX_3 (As := []) (st := []) (ctX8_failHere n0 hO.2.2.2.2.2.2.1 _) (Nat.le_of_ble_eq_true rfl) rfl rfl (Nat.le_of_ble_eq_true rfl) dX4_readPalm_80 (fun z80 => ?_)
          exact b_zret hO dX4_readPalm_83
      · refine b_iconst hO dX4_readPalm_61 ic_i_0 ?_
        exact b_zretc hO (Or.inl rfl) dX4_readPalm_62
    · refine b_aload_n hO dX4_readPalm_25 1 rfl rfl ?_
      refine b_get hO flX4_14 kLX_1 (v := .ref (ad 3)) rfl dX4_readPalm_26 ?_
      refine b_iconst hO dX4_readPalm_29 ic_i_3 ?_
      refine b_aload_n hO dX4_readPalm_30 1 rfl rfl ?_
      refine b_get hO flX4_14 kLX_1 (v := .ref (ad 3)) rfl dX4_readPalm_31 ?_
      refine b_get hO flX4_60 kLX_3 (v := .int (gI _ 387)) rfl dX4_readPalm_34 ?_
      refine b_callVI hO mdX8_fail mvX8_fail w741 (ci := 8) rfl rfl (by decide) kLX_3 (As := [.int _, .int _]) (st := []) (ctX8_fail n0 hO.2.2.2.2.2.2.1 _ _ _) (Nat.le_of_ble_eq_true rfl) rfl rfl (Nat.le_of_ble_eq_true rfl) dX4_readPalm_37 (fun z37 => ?_)
      exact b_zret hO dX4_readPalm_40
  · refine b_iconst hO dX4_readPalm_10 ic_i_0 ?_
    exact b_zretc hO (Or.inl rfl) dX4_readPalm_11
theorem ctX4_readPalm (n0 : Nat) (hI : Inj LX ad) (M : Mem) : CT l LX D cy ad yX4_readPalm cX4_readPalm 3 (some .boolean) 5 (QI LX D cy ad) [.ref (ad 1)] M (fX4_readPalm n0 M) :=
  CT.mk LXok hI (by decide) (Nat.le_of_ble_eq_true rfl) (fun hO => tfX4_readPalm n0 hO M)
/-! X4_readDoing -/
def fX4_readDoing_68 (n0 : Nat) (x1 : Int32) (x2 : Int32) (u0 : Int32) (M : Mem) : Option (Int32 × Mem) :=
  if u0 = (-1 : Int32) then
    some ((0 : Int32), M)
  else
    (fX9_addDoing n0 (gR M 130) x1 x2 u0 M).bind fun z83 =>
    some ((1 : Int32), z83)
def fX4_readDoing (n0 : Nat) (M : Mem) : Option (Int32 × Mem) :=
  (fX4_newName n0 M).bind fun z1 =>
  if z1.1 = (-1 : Int32) then
    some ((0 : Int32), z1.2)
  else
    (fX8_skip n0 (270 : Int32) z1.2).bind fun z17 =>
    if z17.1 = 0 then
      some ((0 : Int32), z17.2)
    else
      (fX4_cornerHere n0 z17.2).bind fun z26 =>
      if z26.1 = (-1 : Int32) then
        some ((0 : Int32), z26.2)
      else
        (fX8_advance n0 z26.2).bind fun z41 =>
        (fX8_skip n0 (271 : Int32) z41).bind fun z51 =>
        if z51.1 = 0 then
          fX4_readDoing_68 n0 z1.1 z26.1 (-1 : Int32) z51.2
        else
          (fX4_number n0 (0 : Int32) (23 : Int32) z51.2).bind fun z61 =>
          fX4_readDoing_68 n0 z1.1 z26.1 z61.1 z61.2
theorem tfX4_readDoing_68 (n0 : Nat) (hO : OKc p (rmL 5) s m args meth c LX D cy ad cX4_readDoing RX4 4 5 (some .boolean)) (x1 : Int32) (x2 : Int32) (u0 : Int32) (M : Mem) : BL p l e (rmL 5) s m args below meth c LX D cy ad 4 (QI LX D cy ad) 68 [(0, .ref (ad 1)), (1, .int x1), (2, .int x2)] [.int u0] M (fX4_readDoing_68 n0 x1 x2 u0 M) := by
  unfold fX4_readDoing_68
  refine b_istore_n hO dX4_readDoing_68 rfl (by decide) (lv' := [(3, .int _), (0, .ref _), (1, .int _), (2, .int _)]) rfl ?_
  refine b_iload_n hO dX4_readDoing_69 0 rfl rfl ?_
  refine b_iconst hO dX4_readDoing_70 ic_i_m1 ?_
  refine b_icmp_ne hO dX4_readDoing_71 (tgt := 76) (by decide) ?_ ?_
  · refine b_aload_n hO dX4_readDoing_76 1 rfl rfl ?_
    refine b_getR hO flX4_35 kLX_1 (id := 130) rfl rfl (rk := 9) rfl (by decide) dX4_readDoing_77 (fun hg1 => ?_)
    refine b_iload_n hO dX4_readDoing_80 2 rfl rfl ?_
    refine b_iload_n hO dX4_readDoing_81 3 rfl rfl ?_
    refine b_iload_n hO dX4_readDoing_82 0 rfl rfl ?_
    refine b_callVV hO mdX9_addDoing mvX9_addDoing w819 (ci := 9) rfl rfl (by decide) hg1 (As := [.int _, .int _, .int _]) (st := []) (ctX9_addDoing n0 _ hg1 hO.2.2.2.2.2.2.1 _ _ _ _) (Nat.le_of_ble_eq_true rfl) rfl rfl (Nat.le_of_ble_eq_true rfl) dX4_readDoing_83 (fun z83 => ?_)
    refine b_iconst hO dX4_readDoing_86 ic_i_1 ?_
    exact b_zretc hO (Or.inr rfl) dX4_readDoing_87
  · refine b_iconst hO dX4_readDoing_74 ic_i_0 ?_
    exact b_zretc hO (Or.inl rfl) dX4_readDoing_75
theorem tfX4_readDoing (n0 : Nat) (hO : OKc p (rmL 5) s m args meth c LX D cy ad cX4_readDoing RX4 4 5 (some .boolean)) (M : Mem) : BL p l e (rmL 5) s m args below meth c LX D cy ad 4 (QI LX D cy ad) 0 [(0, .ref (ad 1))] [] M (fX4_readDoing n0 M) := by
  unfold fX4_readDoing
  refine b_aload_n hO dX4_readDoing_0 0 rfl rfl ?_
  refine b_callVI hO mdX4_newName mvX4_newName w750 (ci := 4) rfl rfl (by decide) kLX_1 (As := []) (st := []) (ctX4_newName n0 hO.2.2.2.2.2.2.1 _) (Nat.le_of_ble_eq_true rfl) rfl rfl (Nat.le_of_ble_eq_true rfl) dX4_readDoing_1 (fun z1 => ?_)
  refine b_istore_n hO dX4_readDoing_4 rfl (by decide) (lv' := [(1, .int _), (0, .ref _)]) rfl ?_
  refine b_iload_n hO dX4_readDoing_5 0 rfl rfl ?_
  refine b_iconst hO dX4_readDoing_6 ic_i_m1 ?_
  refine b_icmp_eq hO dX4_readDoing_7 (tgt := 23) (by decide) ?_ ?_
  · refine b_iconst hO dX4_readDoing_23 ic_i_0 ?_
    exact b_zretc hO (Or.inl rfl) dX4_readDoing_24
  · refine b_aload_n hO dX4_readDoing_10 1 rfl rfl ?_
    refine b_get hO flX4_14 kLX_1 (v := .ref (ad 3)) rfl dX4_readDoing_11 ?_
    refine b_sipush hO dX4_readDoing_14 ic_s_270 ?_
    refine b_callVI hO mdX8_skip mvX8_skip w774 (ci := 8) rfl rfl (by decide) kLX_3 (As := [.int _]) (st := []) (ctX8_skip n0 hO.2.2.2.2.2.2.1 _ _) (Nat.le_of_ble_eq_true rfl) rfl rfl (Nat.le_of_ble_eq_true rfl) dX4_readDoing_17 (fun z17 => ?_)
    refine b_if_ne hO dX4_readDoing_20 (tgt := 25) (by decide) ?_ ?_
    · refine b_aload_n hO dX4_readDoing_25 1 rfl rfl ?_
      refine b_callVI hO mdX4_cornerHere mvX4_cornerHere w799 (ci := 4) rfl rfl (by decide) kLX_1 (As := []) (st := []) (ctX4_cornerHere n0 hO.2.2.2.2.2.2.1 _) (Nat.le_of_ble_eq_true rfl) rfl rfl (Nat.le_of_ble_eq_true rfl) dX4_readDoing_26 (fun z26 => ?_)
      refine b_istore_n hO dX4_readDoing_29 rfl (by decide) (lv' := [(2, .int _), (1, .int _), (0, .ref _)]) rfl ?_
      refine b_iload_n hO dX4_readDoing_30 0 rfl rfl ?_
      refine b_iconst hO dX4_readDoing_31 ic_i_m1 ?_
      refine b_icmp_ne hO dX4_readDoing_32 (tgt := 37) (by decide) ?_ ?_
      · refine b_aload_n hO dX4_readDoing_37 2 rfl rfl ?_
        refine b_get hO flX4_14 kLX_1 (v := .ref (ad 3)) rfl dX4_readDoing_38 ?_
        refine b_callVV hO mdX8_advance mvX8_advance w745 (ci := 8) rfl rfl (by decide) kLX_3 (As := []) (st := []) (ctX8_advance n0 hO.2.2.2.2.2.2.1 _) (Nat.le_of_ble_eq_true rfl) rfl rfl (Nat.le_of_ble_eq_true rfl) dX4_readDoing_41 (fun z41 => ?_)
        refine b_aload_n hO dX4_readDoing_44 2 rfl rfl ?_
        refine b_get hO flX4_14 kLX_1 (v := .ref (ad 3)) rfl dX4_readDoing_45 ?_
        refine b_sipush hO dX4_readDoing_48 ic_s_271 ?_
        refine b_callVI hO mdX8_skip mvX8_skip w774 (ci := 8) rfl rfl (by decide) kLX_3 (As := [.int _]) (st := []) (ctX8_skip n0 hO.2.2.2.2.2.2.1 _ _) (Nat.le_of_ble_eq_true rfl) rfl rfl (Nat.le_of_ble_eq_true rfl) dX4_readDoing_51 (fun z51 => ?_)
        refine b_if_eq hO dX4_readDoing_54 (tgt := 67) (by decide) ?_ ?_
        · refine b_iconst hO dX4_readDoing_67 ic_i_m1 ?_
          refine b_sub [2, 1, 0] rfl ?_
          exact tfX4_readDoing_68 n0 hO _ _ _ _
        · refine b_aload_n hO dX4_readDoing_57 2 rfl rfl ?_
          refine b_iconst hO dX4_readDoing_58 ic_i_0 ?_
          refine b_bipush hO dX4_readDoing_59 ic_b_23 ?_
          refine b_callVI hO mdX4_number mvX4_number w779 (ci := 4) rfl rfl (by decide) kLX_1 (As := [.int _, .int _]) (st := []) (ctX4_number n0 hO.2.2.2.2.2.2.1 _ _ _) (Nat.le_of_ble_eq_true rfl) rfl rfl (Nat.le_of_ble_eq_true rfl) dX4_readDoing_61 (fun z61 => ?_)
          refine b_goto hO dX4_readDoing_64 (tgt := 68) (by decide) ?_
          refine b_sub [2, 1, 0] rfl ?_
          exact tfX4_readDoing_68 n0 hO _ _ _ _
      · refine b_iconst hO dX4_readDoing_35 ic_i_0 ?_
        exact b_zretc hO (Or.inl rfl) dX4_readDoing_36
    · refine b_iconst hO dX4_readDoing_23 ic_i_0 ?_
      exact b_zretc hO (Or.inl rfl) dX4_readDoing_24
theorem ctX4_readDoing (n0 : Nat) (hI : Inj LX ad) (M : Mem) : CT l LX D cy ad yX4_readDoing cX4_readDoing 4 (some .boolean) 5 (QI LX D cy ad) [.ref (ad 1)] M (fX4_readDoing n0 M) :=
  CT.mk LXok hI (by decide) (Nat.le_of_ble_eq_true rfl) (fun hO => tfX4_readDoing n0 hO M)
/-! X4_readPass -/
def fX4_readPass (n0 : Nat) (M : Mem) : Option (Int32 × Mem) :=
  (fX4_number n0 (0 : Int32) (100 : Int32) M).bind fun z4 =>
  if z4.1 = (-1 : Int32) then
    some ((0 : Int32), z4.2)
  else
    bnd (sI z4.2 (128 * (gR z4.2 130) + 16) z4.1) fun M20 =>
    some ((1 : Int32), M20)
theorem tfX4_readPass (n0 : Nat) (hO : OKc p (rmL 5) s m args meth c LX D cy ad cX4_readPass RX4 2 5 (some .boolean)) (M : Mem) : BL p l e (rmL 5) s m args below meth c LX D cy ad 2 (QI LX D cy ad) 0 [(0, .ref (ad 1))] [] M (fX4_readPass n0 M) := by
  unfold fX4_readPass
  refine b_aload_n hO dX4_readPass_0 0 rfl rfl ?_
  refine b_iconst hO dX4_readPass_1 ic_i_0 ?_
  refine b_bipush hO dX4_readPass_2 ic_b_100 ?_
  refine b_callVI hO mdX4_number mvX4_number w779 (ci := 4) rfl rfl (by decide) kLX_1 (As := [.int _, .int _]) (st := []) (ctX4_number n0 hO.2.2.2.2.2.2.1 _ _ _) (Nat.le_of_ble_eq_true rfl) rfl rfl (Nat.le_of_ble_eq_true rfl) dX4_readPass_4 (fun z4 => ?_)
  refine b_istore_n hO dX4_readPass_7 rfl (by decide) (lv' := [(1, .int _), (0, .ref _)]) rfl ?_
  refine b_iload_n hO dX4_readPass_8 0 rfl rfl ?_
  refine b_iconst hO dX4_readPass_9 ic_i_m1 ?_
  refine b_icmp_ne hO dX4_readPass_10 (tgt := 15) (by decide) ?_ ?_
  · refine b_aload_n hO dX4_readPass_15 1 rfl rfl ?_
    refine b_getR hO flX4_35 kLX_1 (id := 130) rfl rfl (rk := 9) rfl (by decide) dX4_readPass_16 (fun hg1 => ?_)
    refine b_iload_n hO dX4_readPass_19 0 rfl rfl ?_
    refine b_putI hO flX4_161 hg1 rfl rfl rfl (id := (128 * (gR z4.2 130) + 16)) rfl dX4_readPass_20 ?_
    refine b_bnd (fun M20 => ?_)
    refine b_iconst hO dX4_readPass_23 ic_i_1 ?_
    exact b_zretc hO (Or.inr rfl) dX4_readPass_24
  · refine b_iconst hO dX4_readPass_13 ic_i_0 ?_
    exact b_zretc hO (Or.inl rfl) dX4_readPass_14
theorem ctX4_readPass (n0 : Nat) (hI : Inj LX ad) (M : Mem) : CT l LX D cy ad yX4_readPass cX4_readPass 2 (some .boolean) 5 (QI LX D cy ad) [.ref (ad 1)] M (fX4_readPass n0 M) :=
  CT.mk LXok hI (by decide) (Nat.le_of_ble_eq_true rfl) (fun hO => tfX4_readPass n0 hO M)
/-! X4_readStatement -/
def fX4_readStatement_98 (n0 : Nat) (u1 : Int32) (M : Mem) : Option (Int32 × Mem) :=
  (fX4_skipFirst n0 u1 M).bind fun z98 =>
  if z98.1 = 0 then
    some ((0 : Int32), z98.2)
  else
    (fX4_readThing n0 z98.2).bind fun z105 =>
    if z105.1 = 0 then
      some ((0 : Int32), z105.2)
    else
      some ((1 : Int32), z105.2)
def fX4_readStatement_134 (n0 : Nat) (u1 : Int32) (M : Mem) : Option (Int32 × Mem) :=
  (fX4_skipFirst n0 u1 M).bind fun z134 =>
  if z134.1 = 0 then
    some ((0 : Int32), z134.2)
  else
    (fX4_readCorner n0 z134.2).bind fun z141 =>
    if z141.1 = 0 then
      some ((0 : Int32), z141.2)
    else
      some ((1 : Int32), z141.2)
def fX4_readStatement_171 (n0 : Nat) (u1 : Int32) (M : Mem) : Option (Int32 × Mem) :=
  (fX4_skipFirst n0 u1 M).bind fun z171 =>
  if z171.1 = 0 then
    some ((0 : Int32), z171.2)
  else
    (fX4_readRoad n0 z171.2).bind fun z178 =>
    if z178.1 = 0 then
      some ((0 : Int32), z178.2)
    else
      some ((1 : Int32), z178.2)
def fX4_readStatement_229 (n0 : Nat) (u1 : Int32) (M : Mem) : Option (Int32 × Mem) :=
  (fX4_skipFirst n0 u1 M).bind fun z229 =>
  if z229.1 = 0 then
    some ((0 : Int32), z229.2)
  else
    (fX4_readDoing n0 z229.2).bind fun z236 =>
    if z236.1 = 0 then
      some ((0 : Int32), z236.2)
    else
      some ((1 : Int32), z236.2)
def fX4_readStatement_267 (n0 : Nat) (u1 : Int32) (M : Mem) : Option (Int32 × Mem) :=
  (fX4_skipFirst n0 u1 M).bind fun z267 =>
  if z267.1 = 0 then
    some ((0 : Int32), z267.2)
  else
    (fX3_readSays n0 ((gR z267.2 130) + 12) z267.2).bind fun z284 =>
    if z284.1 = 0 then
      some ((0 : Int32), z284.2)
    else
      some ((1 : Int32), z284.2)
def fX4_readStatement_315 (n0 : Nat) (u1 : Int32) (M : Mem) : Option (Int32 × Mem) :=
  (fX4_skipFirst n0 u1 M).bind fun z315 =>
  if z315.1 = 0 then
    some ((0 : Int32), z315.2)
  else
    (fX3_readGone n0 ((gR z315.2 130) + 14) z315.2).bind fun z332 =>
    if z332.1 = 0 then
      some ((0 : Int32), z332.2)
    else
      some ((1 : Int32), z332.2)
def fX4_readStatement_365 (n0 : Nat) (M : Mem) : Option (Int32 × Mem) :=
  (fX8_failHere n0 M).bind fun z369 =>
  if z369.1 = 0 ∨ z369.1 = 1 then some (z369.1, z369.2) else none
def fX4_readStatement (n0 : Nat) (M : Mem) : Option (Int32 × Mem) :=
  if (gI M 386) = 260 then
    if (6 : Int32) ≤ (gI M (128 * (gR M 130) + 1)) then
      fX4_readStatement_98 n0 (0 : Int32) M
    else
      fX4_readStatement_98 n0 (1 : Int32) M
  else
  if (gI M 386) = 261 then
    fX4_readStatement_365 n0 M
  else
  if (gI M 386) = 262 then
    fX4_readStatement_365 n0 M
  else
  if (gI M 386) = 263 then
    if (5 : Int32) ≤ (gI M (128 * (gR M 130) + 5)) then
      fX4_readStatement_134 n0 (0 : Int32) M
    else
      fX4_readStatement_134 n0 (1 : Int32) M
  else
  if (gI M 386) = 264 then
    if (10 : Int32) ≤ (gI M (128 * (gR M 130) + 8)) then
      fX4_readStatement_171 n0 (0 : Int32) M
    else
      fX4_readStatement_171 n0 (1 : Int32) M
  else
  if (gI M 386) = 265 then
    fX4_readStatement_365 n0 M
  else
  if (gI M 386) = 266 then
    fX4_readStatement_365 n0 M
  else
  if (gI M 386) = 267 then
    (fX4_skipFirst n0 (1 : Int32) M).bind fun z192 =>
    if z192.1 = 0 then
      some ((0 : Int32), z192.2)
    else
      (fX4_readPalm n0 z192.2).bind fun z199 =>
      if z199.1 = 0 then
        some ((0 : Int32), z199.2)
      else
        some ((1 : Int32), z199.2)
  else
  if (gI M 386) = 268 then
    fX4_readStatement_365 n0 M
  else
  if (gI M 386) = 269 then
    if (6 : Int32) ≤ (gI M (128 * (gR M 130) + 12)) then
      fX4_readStatement_229 n0 (0 : Int32) M
    else
      fX4_readStatement_229 n0 (1 : Int32) M
  else
  if (gI M 386) = 270 then
    fX4_readStatement_365 n0 M
  else
  if (gI M 386) = 271 then
    fX4_readStatement_365 n0 M
  else
  if (gI M 386) = 272 then
    (fX0_isTold n0 ((gR M 130) + 12) M).bind fun z256 =>
    if z256.1 = 0 then
      fX4_readStatement_267 n0 (1 : Int32) z256.2
    else
      fX4_readStatement_267 n0 (0 : Int32) z256.2
  else
  if (gI M 386) = 273 then
    (fX0_isTold n0 ((gR M 130) + 14) M).bind fun z304 =>
    if z304.1 = 0 then
      fX4_readStatement_315 n0 (1 : Int32) z304.2
    else
      fX4_readStatement_315 n0 (0 : Int32) z304.2
  else
  if (gI M 386) = 274 then
    (fX4_skipFirst n0 (1 : Int32) M).bind fun z346 =>
    if z346.1 = 0 then
      some ((0 : Int32), z346.2)
    else
      (fX4_readPass n0 z346.2).bind fun z353 =>
      if z353.1 = 0 then
        some ((0 : Int32), z353.2)
      else
        some ((1 : Int32), z353.2)
  else
  fX4_readStatement_365 n0 M
theorem tfX4_readStatement_98 (n0 : Nat) (hO : OKc p (rmL 107) s m args meth c LX D cy ad cX4_readStatement RX4 1 107 (some .boolean)) (u1 : Int32) (M : Mem) : BL p l e (rmL 107) s m args below meth c LX D cy ad 1 (QI LX D cy ad) 98 [(0, .ref (ad 1))] [.int u1, .ref (ad 1)] M (fX4_readStatement_98 n0 u1 M) := by
  unfold fX4_readStatement_98
  refine b_callVI hO mdX4_skipFirst mvX4_skipFirst w737 (ci := 4) rfl rfl (by decide) kLX_1 (As := [.int _]) (st := []) (ctX4_skipFirst n0 hO.2.2.2.2.2.2.1 _ _) (Nat.le_of_ble_eq_true rfl) rfl rfl (Nat.le_of_ble_eq_true rfl) dX4_readStatement_98 (fun z98 => ?_)
  refine b_if_eq hO dX4_readStatement_101 (tgt := 115) (by decide) ?_ ?_
  · refine b_iconst hO dX4_readStatement_115 ic_i_0 ?_
    exact b_zretc hO (Or.inl rfl) dX4_readStatement_116
  · refine b_aload_n hO dX4_readStatement_104 0 rfl rfl ?_
    refine b_callVI hO mdX4_readThing mvX4_readThing w746 (ci := 4) rfl rfl (by decide) kLX_1 (As := []) (st := []) (ctX4_readThing n0 hO.2.2.2.2.2.2.1 _) (Nat.le_of_ble_eq_true rfl) rfl rfl (Nat.le_of_ble_eq_true rfl) dX4_readStatement_105 (fun z105 => ?_)
    refine b_if_eq hO dX4_readStatement_108 (tgt := 115) (by decide) ?_ ?_
    · refine b_iconst hO dX4_readStatement_115 ic_i_0 ?_
      exact b_zretc hO (Or.inl rfl) dX4_readStatement_116
    · refine b_iconst hO dX4_readStatement_111 ic_i_1 ?_
      refine b_goto hO dX4_readStatement_112 (tgt := 116) (by decide) ?_
      exact b_zretc hO (Or.inr rfl) dX4_readStatement_116
theorem tfX4_readStatement_134 (n0 : Nat) (hO : OKc p (rmL 107) s m args meth c LX D cy ad cX4_readStatement RX4 1 107 (some .boolean)) (u1 : Int32) (M : Mem) : BL p l e (rmL 107) s m args below meth c LX D cy ad 1 (QI LX D cy ad) 134 [(0, .ref (ad 1))] [.int u1, .ref (ad 1)] M (fX4_readStatement_134 n0 u1 M) := by
  unfold fX4_readStatement_134
  refine b_callVI hO mdX4_skipFirst mvX4_skipFirst w737 (ci := 4) rfl rfl (by decide) kLX_1 (As := [.int _]) (st := []) (ctX4_skipFirst n0 hO.2.2.2.2.2.2.1 _ _) (Nat.le_of_ble_eq_true rfl) rfl rfl (Nat.le_of_ble_eq_true rfl) dX4_readStatement_134 (fun z134 => ?_)
  refine b_if_eq hO dX4_readStatement_137 (tgt := 151) (by decide) ?_ ?_
  · refine b_iconst hO dX4_readStatement_151 ic_i_0 ?_
    exact b_zretc hO (Or.inl rfl) dX4_readStatement_152
  · refine b_aload_n hO dX4_readStatement_140 0 rfl rfl ?_
    refine b_callVI hO mdX4_readCorner mvX4_readCorner w787 (ci := 4) rfl rfl (by decide) kLX_1 (As := []) (st := []) (ctX4_readCorner n0 hO.2.2.2.2.2.2.1 _) (Nat.le_of_ble_eq_true rfl) rfl rfl (Nat.le_of_ble_eq_true rfl) dX4_readStatement_141 (fun z141 => ?_)
    refine b_if_eq hO dX4_readStatement_144 (tgt := 151) (by decide) ?_ ?_
    · refine b_iconst hO dX4_readStatement_151 ic_i_0 ?_
      exact b_zretc hO (Or.inl rfl) dX4_readStatement_152
    · refine b_iconst hO dX4_readStatement_147 ic_i_1 ?_
      refine b_goto hO dX4_readStatement_148 (tgt := 152) (by decide) ?_
      exact b_zretc hO (Or.inr rfl) dX4_readStatement_152
theorem tfX4_readStatement_171 (n0 : Nat) (hO : OKc p (rmL 107) s m args meth c LX D cy ad cX4_readStatement RX4 1 107 (some .boolean)) (u1 : Int32) (M : Mem) : BL p l e (rmL 107) s m args below meth c LX D cy ad 1 (QI LX D cy ad) 171 [(0, .ref (ad 1))] [.int u1, .ref (ad 1)] M (fX4_readStatement_171 n0 u1 M) := by
  unfold fX4_readStatement_171
  refine b_callVI hO mdX4_skipFirst mvX4_skipFirst w737 (ci := 4) rfl rfl (by decide) kLX_1 (As := [.int _]) (st := []) (ctX4_skipFirst n0 hO.2.2.2.2.2.2.1 _ _) (Nat.le_of_ble_eq_true rfl) rfl rfl (Nat.le_of_ble_eq_true rfl) dX4_readStatement_171 (fun z171 => ?_)
  refine b_if_eq hO dX4_readStatement_174 (tgt := 188) (by decide) ?_ ?_
  · refine b_iconst hO dX4_readStatement_188 ic_i_0 ?_
    exact b_zretc hO (Or.inl rfl) dX4_readStatement_189
  · refine b_aload_n hO dX4_readStatement_177 0 rfl rfl ?_
    refine b_callVI hO mdX4_readRoad mvX4_readRoad w795 (ci := 4) rfl rfl (by decide) kLX_1 (As := []) (st := []) (ctX4_readRoad n0 hO.2.2.2.2.2.2.1 _) (Nat.le_of_ble_eq_true rfl) rfl rfl (Nat.le_of_ble_eq_true rfl) dX4_readStatement_178 (fun z178 => ?_)
    refine b_if_eq hO dX4_readStatement_181 (tgt := 188) (by decide) ?_ ?_
    · refine b_iconst hO dX4_readStatement_188 ic_i_0 ?_
      exact b_zretc hO (Or.inl rfl) dX4_readStatement_189
    · refine b_iconst hO dX4_readStatement_184 ic_i_1 ?_
      refine b_goto hO dX4_readStatement_185 (tgt := 189) (by decide) ?_
      exact b_zretc hO (Or.inr rfl) dX4_readStatement_189
theorem tfX4_readStatement_229 (n0 : Nat) (hO : OKc p (rmL 107) s m args meth c LX D cy ad cX4_readStatement RX4 1 107 (some .boolean)) (u1 : Int32) (M : Mem) : BL p l e (rmL 107) s m args below meth c LX D cy ad 1 (QI LX D cy ad) 229 [(0, .ref (ad 1))] [.int u1, .ref (ad 1)] M (fX4_readStatement_229 n0 u1 M) := by
  unfold fX4_readStatement_229
  refine b_callVI hO mdX4_skipFirst mvX4_skipFirst w737 (ci := 4) rfl rfl (by decide) kLX_1 (As := [.int _]) (st := []) (ctX4_skipFirst n0 hO.2.2.2.2.2.2.1 _ _) (Nat.le_of_ble_eq_true rfl) rfl rfl (Nat.le_of_ble_eq_true rfl) dX4_readStatement_229 (fun z229 => ?_)
  refine b_if_eq hO dX4_readStatement_232 (tgt := 246) (by decide) ?_ ?_
  · refine b_iconst hO dX4_readStatement_246 ic_i_0 ?_
    exact b_zretc hO (Or.inl rfl) dX4_readStatement_247
  · refine b_aload_n hO dX4_readStatement_235 0 rfl rfl ?_
    refine b_callVI hO mdX4_readDoing mvX4_readDoing w815 (ci := 4) rfl rfl (by decide) kLX_1 (As := []) (st := []) (ctX4_readDoing n0 hO.2.2.2.2.2.2.1 _) (Nat.le_of_ble_eq_true rfl) rfl rfl (Nat.le_of_ble_eq_true rfl) dX4_readStatement_236 (fun z236 => ?_)
    refine b_if_eq hO dX4_readStatement_239 (tgt := 246) (by decide) ?_ ?_
    · refine b_iconst hO dX4_readStatement_246 ic_i_0 ?_
      exact b_zretc hO (Or.inl rfl) dX4_readStatement_247
    · refine b_iconst hO dX4_readStatement_242 ic_i_1 ?_
      refine b_goto hO dX4_readStatement_243 (tgt := 247) (by decide) ?_
      exact b_zretc hO (Or.inr rfl) dX4_readStatement_247
theorem tfX4_readStatement_267 (n0 : Nat) (hO : OKc p (rmL 107) s m args meth c LX D cy ad cX4_readStatement RX4 1 107 (some .boolean)) (u1 : Int32) (M : Mem) : BL p l e (rmL 107) s m args below meth c LX D cy ad 1 (QI LX D cy ad) 267 [(0, .ref (ad 1))] [.int u1, .ref (ad 1)] M (fX4_readStatement_267 n0 u1 M) := by
  unfold fX4_readStatement_267
  refine b_callVI hO mdX4_skipFirst mvX4_skipFirst w737 (ci := 4) rfl rfl (by decide) kLX_1 (As := [.int _]) (st := []) (ctX4_skipFirst n0 hO.2.2.2.2.2.2.1 _ _) (Nat.le_of_ble_eq_true rfl) rfl rfl (Nat.le_of_ble_eq_true rfl) dX4_readStatement_267 (fun z267 => ?_)
  refine b_if_eq hO dX4_readStatement_270 (tgt := 294) (by decide) ?_ ?_
  · refine b_iconst hO dX4_readStatement_294 ic_i_0 ?_
    exact b_zretc hO (Or.inl rfl) dX4_readStatement_295
  · refine b_aload_n hO dX4_readStatement_273 0 rfl rfl ?_
    refine b_get hO flX4_31 kLX_1 (v := .ref (ad 2)) rfl dX4_readStatement_274 ?_
    refine b_aload_n hO dX4_readStatement_277 0 rfl rfl ?_
    refine b_getR hO flX4_35 kLX_1 (id := 130) rfl rfl (rk := 9) rfl (by decide) dX4_readStatement_278 (fun hg1 => ?_)
    refine b_get hO flX4_22 hg1 (v := .ref (ad ((gR z267.2 130) + 12))) rfl dX4_readStatement_281 ?_
    refine b_callVI hO mdX3_readSays mvX3_readSays w824 (ci := 3) rfl rfl (by decide) kLX_2 (As := [.ref _]) (st := []) (ctX3_readSays n0 _ (kt_9_12 hg1) hO.2.2.2.2.2.2.1 _) (Nat.le_of_ble_eq_true rfl) rfl rfl (Nat.le_of_ble_eq_true rfl) dX4_readStatement_284 (fun z284 => ?_)
    refine b_if_eq hO dX4_readStatement_287 (tgt := 294) (by decide) ?_ ?_
    · refine b_iconst hO dX4_readStatement_294 ic_i_0 ?_
      exact b_zretc hO (Or.inl rfl) dX4_readStatement_295
    · refine b_iconst hO dX4_readStatement_290 ic_i_1 ?_
      refine b_goto hO dX4_readStatement_291 (tgt := 295) (by decide) ?_
      exact b_zretc hO (Or.inr rfl) dX4_readStatement_295
theorem tfX4_readStatement_315 (n0 : Nat) (hO : OKc p (rmL 107) s m args meth c LX D cy ad cX4_readStatement RX4 1 107 (some .boolean)) (u1 : Int32) (M : Mem) : BL p l e (rmL 107) s m args below meth c LX D cy ad 1 (QI LX D cy ad) 315 [(0, .ref (ad 1))] [.int u1, .ref (ad 1)] M (fX4_readStatement_315 n0 u1 M) := by
  unfold fX4_readStatement_315
  refine b_callVI hO mdX4_skipFirst mvX4_skipFirst w737 (ci := 4) rfl rfl (by decide) kLX_1 (As := [.int _]) (st := []) (ctX4_skipFirst n0 hO.2.2.2.2.2.2.1 _ _) (Nat.le_of_ble_eq_true rfl) rfl rfl (Nat.le_of_ble_eq_true rfl) dX4_readStatement_315 (fun z315 => ?_)
  refine b_if_eq hO dX4_readStatement_318 (tgt := 342) (by decide) ?_ ?_
  · refine b_iconst hO dX4_readStatement_342 ic_i_0 ?_
    exact b_zretc hO (Or.inl rfl) dX4_readStatement_343
  · refine b_aload_n hO dX4_readStatement_321 0 rfl rfl ?_
    refine b_get hO flX4_31 kLX_1 (v := .ref (ad 2)) rfl dX4_readStatement_322 ?_
    refine b_aload_n hO dX4_readStatement_325 0 rfl rfl ?_
    refine b_getR hO flX4_35 kLX_1 (id := 130) rfl rfl (rk := 9) rfl (by decide) dX4_readStatement_326 (fun hg1 => ?_)
    refine b_get hO flX4_107 hg1 (v := .ref (ad ((gR z315.2 130) + 14))) rfl dX4_readStatement_329 ?_
    refine b_callVI hO mdX3_readGone mvX3_readGone w896 (ci := 3) rfl rfl (by decide) kLX_2 (As := [.ref _]) (st := []) (ctX3_readGone n0 _ (kt_9_14 hg1) hO.2.2.2.2.2.2.1 _) (Nat.le_of_ble_eq_true rfl) rfl rfl (Nat.le_of_ble_eq_true rfl) dX4_readStatement_332 (fun z332 => ?_)
    refine b_if_eq hO dX4_readStatement_335 (tgt := 342) (by decide) ?_ ?_
    · refine b_iconst hO dX4_readStatement_342 ic_i_0 ?_
      exact b_zretc hO (Or.inl rfl) dX4_readStatement_343
    · refine b_iconst hO dX4_readStatement_338 ic_i_1 ?_
      refine b_goto hO dX4_readStatement_339 (tgt := 343) (by decide) ?_
      exact b_zretc hO (Or.inr rfl) dX4_readStatement_343
theorem tfX4_readStatement_365 (n0 : Nat) (hO : OKc p (rmL 107) s m args meth c LX D cy ad cX4_readStatement RX4 1 107 (some .boolean)) (M : Mem) : BL p l e (rmL 107) s m args below meth c LX D cy ad 1 (QI LX D cy ad) 365 [(0, .ref (ad 1))] [] M (fX4_readStatement_365 n0 M) := by
  unfold fX4_readStatement_365
  refine b_aload_n hO dX4_readStatement_365 0 rfl rfl ?_
  refine b_get hO flX4_14 kLX_1 (v := .ref (ad 3)) rfl dX4_readStatement_366 ?_
  refine b_callVI hO mdX8_failHere mvX8_failHere w754 (ci := 8) rfl rfl (by decide) kLX_3 (As := []) (st := []) (ctX8_failHere n0 hO.2.2.2.2.2.2.1 _) (Nat.le_of_ble_eq_true rfl) rfl rfl (Nat.le_of_ble_eq_true rfl) dX4_readStatement_369 (fun z369 => ?_)
  exact b_zret hO dX4_readStatement_372
theorem tfX4_readStatement (n0 : Nat) (hO : OKc p (rmL 107) s m args meth c LX D cy ad cX4_readStatement RX4 1 107 (some .boolean)) (M : Mem) : BL p l e (rmL 107) s m args below meth c LX D cy ad 1 (QI LX D cy ad) 0 [(0, .ref (ad 1))] [] M (fX4_readStatement n0 M) := by
  unfold fX4_readStatement
  refine b_aload_n hO dX4_readStatement_0 0 rfl rfl ?_
  refine b_get hO flX4_14 kLX_1 (v := .ref (ad 3)) rfl dX4_readStatement_1 ?_
  refine b_get hO flX4_45 kLX_3 (v := .int (gI _ 386)) rfl dX4_readStatement_4 ?_
  refine b_tabIn hO dX4_readStatement_7 (v := 260) (z := 260) (tgt := 80) (by decide) (by decide) (by decide) rfl (by decide) ?_ (fun hn0 => ?_)
  · refine b_aload_n hO dX4_readStatement_80 0 rfl rfl ?_
    refine b_aload_n hO dX4_readStatement_81 0 rfl rfl ?_
    refine b_getR hO flX4_35 kLX_1 (id := 130) rfl rfl (rk := 9) rfl (by decide) dX4_readStatement_82 (fun hg1 => ?_)
    refine b_get hO flX4_67 hg1 (v := .int (gI _ (128 * (gR M 130) + 1))) rfl dX4_readStatement_85 ?_
    refine b_bipush hO dX4_readStatement_88 ic_b_6 ?_
    refine b_icmp_ge hO dX4_readStatement_90 (tgt := 97) (by decide) ?_ ?_
    · refine b_iconst hO dX4_readStatement_97 ic_i_0 ?_
      exact tfX4_readStatement_98 n0 hO _ _
    · refine b_iconst hO dX4_readStatement_93 ic_i_1 ?_
      refine b_goto hO dX4_readStatement_94 (tgt := 98) (by decide) ?_
      exact tfX4_readStatement_98 n0 hO _ _
  refine b_tabIn hO dX4_readStatement_7 (v := 261) (z := 261) (tgt := 365) (by decide) (by decide) (by decide) rfl (by decide) ?_ (fun hn1 => ?_)
  · exact tfX4_readStatement_365 n0 hO _
  refine b_tabIn hO dX4_readStatement_7 (v := 262) (z := 262) (tgt := 365) (by decide) (by decide) (by decide) rfl (by decide) ?_ (fun hn2 => ?_)
  · exact tfX4_readStatement_365 n0 hO _
  refine b_tabIn hO dX4_readStatement_7 (v := 263) (z := 263) (tgt := 117) (by decide) (by decide) (by decide) rfl (by decide) ?_ (fun hn3 => ?_)
  · refine b_aload_n hO dX4_readStatement_117 0 rfl rfl ?_
    refine b_aload_n hO dX4_readStatement_118 0 rfl rfl ?_
    refine b_getR hO flX4_35 kLX_1 (id := 130) rfl rfl (rk := 9) rfl (by decide) dX4_readStatement_119 (fun hg2 => ?_)
    refine b_get hO flX4_77 hg2 (v := .int (gI _ (128 * (gR M 130) + 5))) rfl dX4_readStatement_122 ?_
    refine b_iconst hO dX4_readStatement_125 ic_i_5 ?_
    refine b_icmp_ge hO dX4_readStatement_126 (tgt := 133) (by decide) ?_ ?_
    · refine b_iconst hO dX4_readStatement_133 ic_i_0 ?_
      exact tfX4_readStatement_134 n0 hO _ _
    · refine b_iconst hO dX4_readStatement_129 ic_i_1 ?_
      refine b_goto hO dX4_readStatement_130 (tgt := 134) (by decide) ?_
      exact tfX4_readStatement_134 n0 hO _ _
  refine b_tabIn hO dX4_readStatement_7 (v := 264) (z := 264) (tgt := 153) (by decide) (by decide) (by decide) rfl (by decide) ?_ (fun hn4 => ?_)
  · refine b_aload_n hO dX4_readStatement_153 0 rfl rfl ?_
    refine b_aload_n hO dX4_readStatement_154 0 rfl rfl ?_
    refine b_getR hO flX4_35 kLX_1 (id := 130) rfl rfl (rk := 9) rfl (by decide) dX4_readStatement_155 (fun hg3 => ?_)
    refine b_get hO flX4_83 hg3 (v := .int (gI _ (128 * (gR M 130) + 8))) rfl dX4_readStatement_158 ?_
    refine b_bipush hO dX4_readStatement_161 ic_b_10 ?_
    refine b_icmp_ge hO dX4_readStatement_163 (tgt := 170) (by decide) ?_ ?_
    · refine b_iconst hO dX4_readStatement_170 ic_i_0 ?_
      exact tfX4_readStatement_171 n0 hO _ _
    · refine b_iconst hO dX4_readStatement_166 ic_i_1 ?_
      refine b_goto hO dX4_readStatement_167 (tgt := 171) (by decide) ?_
      exact tfX4_readStatement_171 n0 hO _ _
  refine b_tabIn hO dX4_readStatement_7 (v := 265) (z := 265) (tgt := 365) (by decide) (by decide) (by decide) rfl (by decide) ?_ (fun hn5 => ?_)
  · exact tfX4_readStatement_365 n0 hO _
  refine b_tabIn hO dX4_readStatement_7 (v := 266) (z := 266) (tgt := 365) (by decide) (by decide) (by decide) rfl (by decide) ?_ (fun hn6 => ?_)
  · exact tfX4_readStatement_365 n0 hO _
  refine b_tabIn hO dX4_readStatement_7 (v := 267) (z := 267) (tgt := 190) (by decide) (by decide) (by decide) rfl (by decide) ?_ (fun hn7 => ?_)
  · refine b_aload_n hO dX4_readStatement_190 0 rfl rfl ?_
    refine b_iconst hO dX4_readStatement_191 ic_i_1 ?_
    refine b_callVI hO mdX4_skipFirst mvX4_skipFirst w737 (ci := 4) rfl rfl (by decide) kLX_1 (As := [.int _]) (st := []) (ctX4_skipFirst n0 hO.2.2.2.2.2.2.1 _ _) (Nat.le_of_ble_eq_true rfl) rfl rfl (Nat.le_of_ble_eq_true rfl) dX4_readStatement_192 (fun z192 => ?_)
    refine b_if_eq hO dX4_readStatement_195 (tgt := 209) (by decide) ?_ ?_
    · refine b_iconst hO dX4_readStatement_209 ic_i_0 ?_
      exact b_zretc hO (Or.inl rfl) dX4_readStatement_210
    · refine b_aload_n hO dX4_readStatement_198 0 rfl rfl ?_
      refine b_callVI hO mdX4_readPalm mvX4_readPalm w811 (ci := 4) rfl rfl (by decide) kLX_1 (As := []) (st := []) (ctX4_readPalm n0 hO.2.2.2.2.2.2.1 _) (Nat.le_of_ble_eq_true rfl) rfl rfl (Nat.le_of_ble_eq_true rfl) dX4_readStatement_199 (fun z199 => ?_)
      refine b_if_eq hO dX4_readStatement_202 (tgt := 209) (by decide) ?_ ?_
      · refine b_iconst hO dX4_readStatement_209 ic_i_0 ?_
        exact b_zretc hO (Or.inl rfl) dX4_readStatement_210
      · refine b_iconst hO dX4_readStatement_205 ic_i_1 ?_
        refine b_goto hO dX4_readStatement_206 (tgt := 210) (by decide) ?_
        exact b_zretc hO (Or.inr rfl) dX4_readStatement_210
  refine b_tabIn hO dX4_readStatement_7 (v := 268) (z := 268) (tgt := 365) (by decide) (by decide) (by decide) rfl (by decide) ?_ (fun hn8 => ?_)
  · exact tfX4_readStatement_365 n0 hO _
  refine b_tabIn hO dX4_readStatement_7 (v := 269) (z := 269) (tgt := 211) (by decide) (by decide) (by decide) rfl (by decide) ?_ (fun hn9 => ?_)
  · refine b_aload_n hO dX4_readStatement_211 0 rfl rfl ?_
    refine b_aload_n hO dX4_readStatement_212 0 rfl rfl ?_
    refine b_getR hO flX4_35 kLX_1 (id := 130) rfl rfl (rk := 9) rfl (by decide) dX4_readStatement_213 (fun hg4 => ?_)
    refine b_get hO flX4_92 hg4 (v := .int (gI _ (128 * (gR M 130) + 12))) rfl dX4_readStatement_216 ?_
    refine b_bipush hO dX4_readStatement_219 ic_b_6 ?_
    refine b_icmp_ge hO dX4_readStatement_221 (tgt := 228) (by decide) ?_ ?_
    · refine b_iconst hO dX4_readStatement_228 ic_i_0 ?_
      exact tfX4_readStatement_229 n0 hO _ _
    · refine b_iconst hO dX4_readStatement_224 ic_i_1 ?_
      refine b_goto hO dX4_readStatement_225 (tgt := 229) (by decide) ?_
      exact tfX4_readStatement_229 n0 hO _ _
  refine b_tabIn hO dX4_readStatement_7 (v := 270) (z := 270) (tgt := 365) (by decide) (by decide) (by decide) rfl (by decide) ?_ (fun hn10 => ?_)
  · exact tfX4_readStatement_365 n0 hO _
  refine b_tabIn hO dX4_readStatement_7 (v := 271) (z := 271) (tgt := 365) (by decide) (by decide) (by decide) rfl (by decide) ?_ (fun hn11 => ?_)
  · exact tfX4_readStatement_365 n0 hO _
  refine b_tabIn hO dX4_readStatement_7 (v := 272) (z := 272) (tgt := 248) (by decide) (by decide) (by decide) rfl (by decide) ?_ (fun hn12 => ?_)
  · refine b_aload_n hO dX4_readStatement_248 0 rfl rfl ?_
    refine b_aload_n hO dX4_readStatement_249 0 rfl rfl ?_
    refine b_getR hO flX4_35 kLX_1 (id := 130) rfl rfl (rk := 9) rfl (by decide) dX4_readStatement_250 (fun hg5 => ?_)
    refine b_get hO flX4_22 hg5 (v := .ref (ad ((gR M 130) + 12))) rfl dX4_readStatement_253 ?_
    refine b_callVI hO mdX0_isTold mvX0_isTold w823 (ci := 0) rfl rfl (by decide) (kt_9_12 hg5) (As := []) (st := [.ref _]) (ctX0_isTold n0 _ (kt_9_12 hg5) hO.2.2.2.2.2.2.1 _) (Nat.le_of_ble_eq_true rfl) rfl rfl (Nat.le_of_ble_eq_true rfl) dX4_readStatement_256 (fun z256 => ?_)
    refine b_if_ne hO dX4_readStatement_259 (tgt := 266) (by decide) ?_ ?_
    · refine b_iconst hO dX4_readStatement_266 ic_i_0 ?_
      exact tfX4_readStatement_267 n0 hO _ _
    · refine b_iconst hO dX4_readStatement_262 ic_i_1 ?_
      refine b_goto hO dX4_readStatement_263 (tgt := 267) (by decide) ?_
      exact tfX4_readStatement_267 n0 hO _ _
  refine b_tabIn hO dX4_readStatement_7 (v := 273) (z := 273) (tgt := 296) (by decide) (by decide) (by decide) rfl (by decide) ?_ (fun hn13 => ?_)
  · refine b_aload_n hO dX4_readStatement_296 0 rfl rfl ?_
    refine b_aload_n hO dX4_readStatement_297 0 rfl rfl ?_
    refine b_getR hO flX4_35 kLX_1 (id := 130) rfl rfl (rk := 9) rfl (by decide) dX4_readStatement_298 (fun hg6 => ?_)
    refine b_get hO flX4_107 hg6 (v := .ref (ad ((gR M 130) + 14))) rfl dX4_readStatement_301 ?_
    refine b_callVI hO mdX0_isTold mvX0_isTold w823 (ci := 0) rfl rfl (by decide) (kt_9_14 hg6) (As := []) (st := [.ref _]) (ctX0_isTold n0 _ (kt_9_14 hg6) hO.2.2.2.2.2.2.1 _) (Nat.le_of_ble_eq_true rfl) rfl rfl (Nat.le_of_ble_eq_true rfl) dX4_readStatement_304 (fun z304 => ?_)
    refine b_if_ne hO dX4_readStatement_307 (tgt := 314) (by decide) ?_ ?_
    · refine b_iconst hO dX4_readStatement_314 ic_i_0 ?_
      exact tfX4_readStatement_315 n0 hO _ _
    · refine b_iconst hO dX4_readStatement_310 ic_i_1 ?_
      refine b_goto hO dX4_readStatement_311 (tgt := 315) (by decide) ?_
      exact tfX4_readStatement_315 n0 hO _ _
  refine b_tabIn hO dX4_readStatement_7 (v := 274) (z := 274) (tgt := 344) (by decide) (by decide) (by decide) rfl (by decide) ?_ (fun hn14 => ?_)
  · refine b_aload_n hO dX4_readStatement_344 0 rfl rfl ?_
    refine b_iconst hO dX4_readStatement_345 ic_i_1 ?_
    refine b_callVI hO mdX4_skipFirst mvX4_skipFirst w737 (ci := 4) rfl rfl (by decide) kLX_1 (As := [.int _]) (st := []) (ctX4_skipFirst n0 hO.2.2.2.2.2.2.1 _ _) (Nat.le_of_ble_eq_true rfl) rfl rfl (Nat.le_of_ble_eq_true rfl) dX4_readStatement_346 (fun z346 => ?_)
    refine b_if_eq hO dX4_readStatement_349 (tgt := 363) (by decide) ?_ ?_
    · refine b_iconst hO dX4_readStatement_363 ic_i_0 ?_
      exact b_zretc hO (Or.inl rfl) dX4_readStatement_364
    · refine b_aload_n hO dX4_readStatement_352 0 rfl rfl ?_
      refine b_callVI hO mdX4_readPass mvX4_readPass w900 (ci := 4) rfl rfl (by decide) kLX_1 (As := []) (st := []) (ctX4_readPass n0 hO.2.2.2.2.2.2.1 _) (Nat.le_of_ble_eq_true rfl) rfl rfl (Nat.le_of_ble_eq_true rfl) dX4_readStatement_353 (fun z353 => ?_)
      refine b_if_eq hO dX4_readStatement_356 (tgt := 363) (by decide) ?_ ?_
      · refine b_iconst hO dX4_readStatement_363 ic_i_0 ?_
        exact b_zretc hO (Or.inl rfl) dX4_readStatement_364
      · refine b_iconst hO dX4_readStatement_359 ic_i_1 ?_
        refine b_goto hO dX4_readStatement_360 (tgt := 364) (by decide) ?_
        exact b_zretc hO (Or.inr rfl) dX4_readStatement_364
  refine b_tabOut hO dX4_readStatement_7 (tgt := 365) (by omega) (by decide) ?_
  exact tfX4_readStatement_365 n0 hO _
theorem ctX4_readStatement (n0 : Nat) (hI : Inj LX ad) (M : Mem) : CT l LX D cy ad yX4_readStatement cX4_readStatement 1 (some .boolean) 107 (QI LX D cy ad) [.ref (ad 1)] M (fX4_readStatement n0 M) :=
  CT.mk LXok hI (by decide) (Nat.le_of_ble_eq_true rfl) (fun hO => tfX4_readStatement n0 hO M)
/-! X4_read -/
def fX4_read_80 (n0 : Nat) (q1 : Nat) (M : Mem) : Option (Int32 × Mem) :=
  if (gI M 386) = (259 : Int32) then
    some ((1 : Int32), M)
  else
    (fX8_fail n0 (6 : Int32) (gI M 387) M).bind fun z106 =>
    if z106.1 = 0 then
      some ((0 : Int32), z106.2)
    else
      some ((1 : Int32), z106.2)
def bX4_read_21 (n0 : Nat) (q1 : Nat) (k21 : Int32 → Mem → Option (Int32 × Mem)) (x2 : Int32) (M : Mem) : Option (Int32 × Mem) :=
  if (80 : Int32) ≤ x2 then
    fX4_read_80 n0 q1 M
  else
    if (gI M 386) = (259 : Int32) then
      fX4_read_80 n0 q1 M
    else
      (fX4_readStatement n0 M).bind fun z41 =>
      if z41.1 = 0 then
        some ((0 : Int32), z41.2)
      else
        (fX8_skip n0 (59 : Int32) z41.2).bind fun z53 =>
        if z53.1 = 0 then
          some ((0 : Int32), z53.2)
        else
          bnd (sI z53.2 (128 * (gR z53.2 130) + 0) ((gI z53.2 (128 * (gR z53.2 130) + 0)) + (1 : Int32))) fun M71 =>
          k21 (x2 + (1 : Int32)) M71
def fX4_read_21 (n0 : Nat) (q1 : Nat) : Int32 → Mem → Option (Int32 × Mem) := loopN (bX4_read_21 n0 q1) (fun _ _ => none) n0
def fX4_read (n0 : Nat) (q1 : Nat) (M : Mem) : Option (Int32 × Mem) :=
  bnd (sR M 130 q1) fun M2 =>
  (fX9_clear n0 (gR M2 130) M2).bind fun z9 =>
  (fX8_begin n0 z9).bind fun z16 =>
  fX4_read_21 n0 q1 (0 : Int32) z16
theorem tfX4_read_80 (n0 : Nat) (q1 : Nat) (hq1 : isK LX q1 9) (hO : OKc p (rmL 108) s m args meth c LX D cy ad cX4_read RX4 3 108 (some .boolean)) (M : Mem) : BL p l e (rmL 108) s m args below meth c LX D cy ad 3 (QI LX D cy ad) 80 [(0, .ref (ad 1))] [] M (fX4_read_80 n0 q1 M) := by
  unfold fX4_read_80
  refine b_aload_n hO dX4_read_80 0 rfl rfl ?_
  refine b_get hO flX4_14 kLX_1 (v := .ref (ad 3)) rfl dX4_read_81 ?_
  refine b_get hO flX4_45 kLX_3 (v := .int (gI _ 386)) rfl dX4_read_84 ?_
  refine b_sipush hO dX4_read_87 ic_s_259 ?_
  refine b_icmp_eq hO dX4_read_90 (tgt := 112) (by decide) ?_ ?_
  · refine b_iconst hO dX4_read_112 ic_i_1 ?_
    refine b_goto hO dX4_read_113 (tgt := 117) (by decide) ?_
    exact b_zretc hO (Or.inr rfl) dX4_read_117
  · refine b_aload_n hO dX4_read_93 0 rfl rfl ?_
    refine b_get hO flX4_14 kLX_1 (v := .ref (ad 3)) rfl dX4_read_94 ?_
    refine b_bipush hO dX4_read_97 ic_b_6 ?_
    refine b_aload_n hO dX4_read_99 0 rfl rfl ?_
    refine b_get hO flX4_14 kLX_1 (v := .ref (ad 3)) rfl dX4_read_100 ?_
    refine b_get hO flX4_60 kLX_3 (v := .int (gI _ 387)) rfl dX4_read_103 ?_
    refine b_callVI hO mdX8_fail mvX8_fail w741 (ci := 8) rfl rfl (by decide) kLX_3 (As := [.int _, .int _]) (st := []) (ctX8_fail n0 hO.2.2.2.2.2.2.1 _ _ _) (Nat.le_of_ble_eq_true rfl) rfl rfl (Nat.le_of_ble_eq_true rfl) dX4_read_106 (fun z106 => ?_)
    refine b_if_eq hO dX4_read_109 (tgt := 116) (by decide) ?_ ?_
    · refine b_iconst hO dX4_read_116 ic_i_0 ?_
      exact b_zretc hO (Or.inl rfl) dX4_read_117
    · refine b_iconst hO dX4_read_112 ic_i_1 ?_
      refine b_goto hO dX4_read_113 (tgt := 117) (by decide) ?_
      exact b_zretc hO (Or.inr rfl) dX4_read_117
theorem tbX4_read_21 (n0 : Nat) (q1 : Nat) (hq1 : isK LX q1 9) (hO : OKc p (rmL 108) s m args meth c LX D cy ad cX4_read RX4 3 108 (some .boolean)) (k21 : Int32 → Mem → Option (Int32 × Mem)) (hk21 : ∀ (x2 : Int32) (M : Mem), BL p l e (rmL 108) s m args below meth c LX D cy ad 3 (QI LX D cy ad) 21 [(0, .ref (ad 1)), (2, .int x2)] [] M (k21 x2 M)) (x2 : Int32) (M : Mem) : BL p l e (rmL 108) s m args below meth c LX D cy ad 3 (QI LX D cy ad) 21 [(0, .ref (ad 1)), (2, .int x2)] [] M (bX4_read_21 n0 q1 k21 x2 M) := by
  unfold bX4_read_21
  refine b_iload_n hO dX4_read_21 1 rfl rfl ?_
  refine b_bipush hO dX4_read_22 ic_b_80 ?_
  refine b_icmp_ge hO dX4_read_24 (tgt := 80) (by decide) ?_ ?_
  · refine b_sub [0] rfl ?_
    exact tfX4_read_80 n0 q1 hq1 hO _
  · refine b_aload_n hO dX4_read_27 0 rfl rfl ?_
    refine b_get hO flX4_14 kLX_1 (v := .ref (ad 3)) rfl dX4_read_28 ?_
    refine b_get hO flX4_45 kLX_3 (v := .int (gI _ 386)) rfl dX4_read_31 ?_
    refine b_sipush hO dX4_read_34 ic_s_259 ?_
    refine b_icmp_eq hO dX4_read_37 (tgt := 80) (by decide) ?_ ?_
    · refine b_sub [0] rfl ?_
      exact tfX4_read_80 n0 q1 hq1 hO _
    · refine b_aload_n hO dX4_read_40 0 rfl rfl ?_
      refine b_callVI hO mdX4_readStatement mvX4_readStatement w733 (ci := 4) rfl rfl (by decide) kLX_1 (As := []) (st := []) (ctX4_readStatement n0 hO.2.2.2.2.2.2.1 _) (Nat.le_of_ble_eq_true rfl) rfl rfl (Nat.le_of_ble_eq_true rfl) dX4_read_41 (fun z41 => ?_)
      refine b_if_eq hO dX4_read_44 (tgt := 59) (by decide) ?_ ?_
      · refine b_iconst hO dX4_read_59 ic_i_0 ?_
        exact b_zretc hO (Or.inl rfl) dX4_read_60
      · refine b_aload_n hO dX4_read_47 0 rfl rfl ?_
        refine b_get hO flX4_14 kLX_1 (v := .ref (ad 3)) rfl dX4_read_48 ?_
        refine b_bipush hO dX4_read_51 ic_b_59 ?_
        refine b_callVI hO mdX8_skip mvX8_skip w774 (ci := 8) rfl rfl (by decide) kLX_3 (As := [.int _]) (st := []) (ctX8_skip n0 hO.2.2.2.2.2.2.1 _ _) (Nat.le_of_ble_eq_true rfl) rfl rfl (Nat.le_of_ble_eq_true rfl) dX4_read_53 (fun z53 => ?_)
        refine b_if_ne hO dX4_read_56 (tgt := 61) (by decide) ?_ ?_
        · refine b_aload_n hO dX4_read_61 0 rfl rfl ?_
          refine b_getR hO flX4_35 kLX_1 (id := 130) rfl rfl (rk := 9) rfl (by decide) dX4_read_62 (fun hg1 => ?_)
          refine b_dup hO dX4_read_65 rfl ?_
          refine b_get hO flX4_57 hg1 (v := .int (gI _ (128 * (gR z53.2 130) + 0))) rfl dX4_read_66 ?_
          refine b_iconst hO dX4_read_69 ic_i_1 ?_
          refine b_iadd hO dX4_read_70 ?_
          refine b_putI hO flX4_57 hg1 rfl rfl rfl (id := (128 * (gR z53.2 130) + 0)) rfl dX4_read_71 ?_
          refine b_bnd (fun M71 => ?_)
          refine b_iinc hO dX4_read_74 1 rfl ic_i_1 (by decide) (lv' := [(2, .int _), (0, .ref _)]) rfl ?_
          refine b_goto hO dX4_read_77 (tgt := 21) (by decide) ?_
          refine b_sub [1, 0] rfl ?_
          exact hk21 _ _
        · refine b_iconst hO dX4_read_59 ic_i_0 ?_
          exact b_zretc hO (Or.inl rfl) dX4_read_60
theorem lX4_read_21 (n0 : Nat) (q1 : Nat) (hq1 : isK LX q1 9) (hO : OKc p (rmL 108) s m args meth c LX D cy ad cX4_read RX4 3 108 (some .boolean)) : ∀ (w : Nat) (x2 : Int32) (M : Mem), BL p l e (rmL 108) s m args below meth c LX D cy ad 3 (QI LX D cy ad) 21 [(0, .ref (ad 1)), (2, .int x2)] [] M (loopN (bX4_read_21 n0 q1) (fun _ _ => none) w x2 M) := by
  intro w
  induction w with
  | zero =>
    intros
    exact b_none
  | succ w ih =>
    intro x2 M
    exact tbX4_read_21 n0 q1 hq1 hO _ ih x2 M
theorem tfX4_read_21 (n0 : Nat) (q1 : Nat) (hq1 : isK LX q1 9) (hO : OKc p (rmL 108) s m args meth c LX D cy ad cX4_read RX4 3 108 (some .boolean)) (x2 : Int32) (M : Mem) : BL p l e (rmL 108) s m args below meth c LX D cy ad 3 (QI LX D cy ad) 21 [(0, .ref (ad 1)), (2, .int x2)] [] M (fX4_read_21 n0 q1 x2 M) := lX4_read_21 n0 q1 hq1 hO n0 x2 M
theorem tfX4_read (n0 : Nat) (q1 : Nat) (hq1 : isK LX q1 9) (hO : OKc p (rmL 108) s m args meth c LX D cy ad cX4_read RX4 3 108 (some .boolean)) (M : Mem) : BL p l e (rmL 108) s m args below meth c LX D cy ad 3 (QI LX D cy ad) 0 [(0, .ref (ad 1)), (1, .ref (ad q1))] [] M (fX4_read n0 q1 M) := by
  unfold fX4_read
  refine b_aload_n hO dX4_read_0 0 rfl rfl ?_
  refine b_aload_n hO dX4_read_1 1 rfl rfl ?_
  refine b_putR hO flX4_35 kLX_1 rfl (id := 130) rfl hq1 rfl rfl dX4_read_2 ?_
  refine b_bnd (fun M2 => ?_)
  refine b_aload_n hO dX4_read_5 0 rfl rfl ?_
  refine b_getR hO flX4_35 kLX_1 (id := 130) rfl rfl (rk := 9) rfl (by decide) dX4_read_6 (fun hg1 => ?_)
  refine b_callVV hO mdX9_clear mvX9_clear w691 (ci := 9) rfl rfl (by decide) hg1 (As := []) (st := []) (ctX9_clear n0 _ hg1 hO.2.2.2.2.2.2.1 _) (Nat.le_of_ble_eq_true rfl) rfl rfl (Nat.le_of_ble_eq_true rfl) dX4_read_9 (fun z9 => ?_)
  refine b_aload_n hO dX4_read_12 0 rfl rfl ?_
  refine b_get hO flX4_14 kLX_1 (v := .ref (ad 3)) rfl dX4_read_13 ?_
  refine b_callVV hO mdX8_begin mvX8_begin w695 (ci := 8) rfl rfl (by decide) kLX_3 (As := []) (st := []) (ctX8_begin n0 hO.2.2.2.2.2.2.1 _) (Nat.le_of_ble_eq_true rfl) rfl rfl (Nat.le_of_ble_eq_true rfl) dX4_read_16 (fun z16 => ?_)
  refine b_iconst hO dX4_read_19 ic_i_0 ?_
  refine b_istore_n hO dX4_read_20 rfl (by decide) (lv' := [(2, .int _), (0, .ref _), (1, .ref _)]) rfl ?_
  refine b_sub [1, 0] rfl ?_
  exact tfX4_read_21 n0 q1 hq1 hO _ _
theorem ctX4_read (n0 : Nat) (q1 : Nat) (hq1 : isK LX q1 9) (hI : Inj LX ad) (M : Mem) : CT l LX D cy ad yX4_read cX4_read 3 (some .boolean) 108 (QI LX D cy ad) [.ref (ad 1), .ref (ad q1)] M (fX4_read n0 q1 M) :=
  CT.mk LXok hI (by decide) (Nat.le_of_ble_eq_true rfl) (fun hO => tfX4_read n0 q1 hq1 hO M)
end
end
