section
variable {p : Program} {l : Launch} {e : Env} {s : State} {m : MethodId} {args : Array Value} {below : List Frame} {meth : Method} {c : Code} {D : va_G} {cy : Nat → ClassId} {ad : Nat → Nat} {dd : Nat}

/-! X3_addAndAdvance -/
def fX3_addAndAdvance (n0 : Nat) (x1 : Int32) (M : Mem) : Option (Int32 × Mem) :=
  (fX0_add n0 (gR M 257) x1 M).bind fun z5 =>
  (fX8_advance n0 z5).bind fun z12 =>
  some ((1 : Int32), z12)
theorem tfX3_addAndAdvance (n0 : Nat) (hO : OKc p (rmL 4) s m args meth c LX D cy ad cX3_addAndAdvance RX3 2 4 (some .boolean)) (x1 : Int32) (M : Mem) : BL p l e (rmL 4) s m args below meth c LX D cy ad 2 (QI LX D cy ad) 0 [(0, .ref (ad 2)), (1, .int x1)] [] M (fX3_addAndAdvance n0 x1 M) := by
  unfold fX3_addAndAdvance
  refine b_aload_n hO dX3_addAndAdvance_0 0 rfl rfl ?_
  refine b_getR hO flX3_19 kLX_2 (id := 257) rfl rfl (rk := 0) rfl (by decide) dX3_addAndAdvance_1 (fun hg1 => ?_)
  refine b_iload_n hO dX3_addAndAdvance_4 1 rfl rfl ?_
  refine b_callVV hO mdX0_add mvX0_add w844 (ci := 0) rfl rfl (by decide) hg1 (As := [.int _]) (st := []) (ctX0_add n0 _ hg1 hO.2.2.2.2.2.2.1 _ _) (Nat.le_of_ble_eq_true rfl) rfl rfl (Nat.le_of_ble_eq_true rfl) dX3_addAndAdvance_5 (fun z5 => ?_)
  refine b_aload_n hO dX3_addAndAdvance_8 0 rfl rfl ?_
  refine b_get hO flX3_15 kLX_2 (v := .ref (ad 3)) rfl dX3_addAndAdvance_9 ?_
  refine b_callVV hO mdX8_advance mvX8_advance w848 (ci := 8) rfl rfl (by decide) kLX_3 (As := []) (st := []) (ctX8_advance n0 hO.2.2.2.2.2.2.1 _) (Nat.le_of_ble_eq_true rfl) rfl rfl (Nat.le_of_ble_eq_true rfl) dX3_addAndAdvance_12 (fun z12 => ?_)
  refine b_iconst hO dX3_addAndAdvance_15 ic_i_1 ?_
  exact b_zretc hO (Or.inr rfl) dX3_addAndAdvance_16
theorem ctX3_addAndAdvance (n0 : Nat) (hI : Inj LX ad) (x1 : Int32) (M : Mem) : CT l LX D cy ad yX3_addAndAdvance cX3_addAndAdvance 2 (some .boolean) 4 (QI LX D cy ad) [.ref (ad 2), .int x1] M (fX3_addAndAdvance n0 x1 M) :=
  CT.mk LXok hI (by decide) (Nat.le_of_ble_eq_true rfl) (fun hO => tfX3_addAndAdvance n0 hO x1 M)
/-! X3_goIn -/
def fX3_goIn (n0 : Nat) (x1 : Int32) (x2 : Int32) (M : Mem) : Option (Int32 × Mem) :=
  if (gI M 386) = x1 then
    if x2 < (7 : Int32) then
      (fX8_advance n0 M).bind fun z45 =>
      some ((1 : Int32), z45)
    else
      (fX8_fail n0 (5 : Int32) (gI M 387) M).bind fun z37 =>
      if z37.1 = 0 ∨ z37.1 = 1 then some (z37.1, z37.2) else none
  else
    (fX8_failHere n0 M).bind fun z15 =>
    if z15.1 = 0 ∨ z15.1 = 1 then some (z15.1, z15.2) else none
theorem tfX3_goIn (n0 : Nat) (hO : OKc p (rmL 4) s m args meth c LX D cy ad cX3_goIn RX3 3 4 (some .boolean)) (x1 : Int32) (x2 : Int32) (M : Mem) : BL p l e (rmL 4) s m args below meth c LX D cy ad 3 (QI LX D cy ad) 0 [(0, .ref (ad 2)), (1, .int x1), (2, .int x2)] [] M (fX3_goIn n0 x1 x2 M) := by
  unfold fX3_goIn
  refine b_aload_n hO dX3_goIn_0 0 rfl rfl ?_
  refine b_get hO flX3_15 kLX_2 (v := .ref (ad 3)) rfl dX3_goIn_1 ?_
  refine b_get hO flX3_30 kLX_3 (v := .int (gI _ 386)) rfl dX3_goIn_4 ?_
  refine b_iload_n hO dX3_goIn_7 1 rfl rfl ?_
  refine b_icmp_eq hO dX3_goIn_8 (tgt := 19) (by decide) ?_ ?_
  · refine b_iload_n hO dX3_goIn_19 2 rfl rfl ?_
    refine b_bipush hO dX3_goIn_20 ic_b_7 ?_
    refine b_icmp_lt hO dX3_goIn_22 (tgt := 41) (by decide) ?_ ?_
    · refine b_aload_n hO dX3_goIn_41 0 rfl rfl ?_
      refine b_get hO flX3_15 kLX_2 (v := .ref (ad 3)) rfl dX3_goIn_42 ?_
      refine b_callVV hO mdX8_advance mvX8_advance w848 (ci := 8) rfl rfl (by decide) kLX_3 (As := []) (st := []) (ctX8_advance n0 hO.2.2.2.2.2.2.1 _) (Nat.le_of_ble_eq_true rfl) rfl rfl (Nat.le_of_ble_eq_true rfl) dX3_goIn_45 (fun z45 => ?_)
      refine b_iconst hO dX3_goIn_48 ic_i_1 ?_
      exact b_zretc hO (Or.inr rfl) dX3_goIn_49
    · refine b_aload_n hO dX3_goIn_25 0 rfl rfl ?_
      refine b_get hO flX3_15 kLX_2 (v := .ref (ad 3)) rfl dX3_goIn_26 ?_
      refine b_iconst hO dX3_goIn_29 ic_i_5 ?_
      refine b_aload_n hO dX3_goIn_30 0 rfl rfl ?_
      refine b_get hO flX3_15 kLX_2 (v := .ref (ad 3)) rfl dX3_goIn_31 ?_
      refine b_get hO flX3_40 kLX_3 (v := .int (gI _ 387)) rfl dX3_goIn_34 ?_
      refine b_callVI hO mdX8_fail mvX8_fail w858 (ci := 8) rfl rfl (by decide) kLX_3 (As := [.int _, .int _]) (st := []) (ctX8_fail n0 hO.2.2.2.2.2.2.1 _ _ _) (Nat.le_of_ble_eq_true rfl) rfl rfl (Nat.le_of_ble_eq_true rfl) dX3_goIn_37 (fun z37 => ?_)
      exact b_zret hO dX3_goIn_40
  · refine b_aload_n hO dX3_goIn_11 0 rfl rfl ?_
    refine b_get hO flX3_15 kLX_2 (v := .ref (ad 3)) rfl dX3_goIn_12 ?_
    refine b_callVI hO mdX8_failHere mvX8_failHere w849 (ci := 8) rfl rfl (by decide) kLX_3 (As := []) (st := []) (ctX8_failHere n0 hO.2.2.2.2.2.2.1 _) (Nat.le_of_ble_eq_true rfl) rfl rfl (Nat.le_of_ble_eq_true rfl) dX3_goIn_15 (fun z15 => ?_)
    exact b_zret hO dX3_goIn_18
theorem ctX3_goIn (n0 : Nat) (hI : Inj LX ad) (x1 : Int32) (x2 : Int32) (M : Mem) : CT l LX D cy ad yX3_goIn cX3_goIn 3 (some .boolean) 4 (QI LX D cy ad) [.ref (ad 2), .int x1, .int x2] M (fX3_goIn n0 x1 x2 M) :=
  CT.mk LXok hI (by decide) (Nat.le_of_ble_eq_true rfl) (fun hO => tfX3_goIn n0 hO x1 x2 M)
/-! X3_add -/
def fX3_add (n0 : Nat) (x1 : Int32) (M : Mem) : Option (Int32 × Mem) :=
  (fX0_add n0 (gR M 257) x1 M).bind fun z5 =>
  some ((1 : Int32), z5)
theorem tfX3_add (n0 : Nat) (hO : OKc p (rmL 2) s m args meth c LX D cy ad cX3_add RX3 2 2 (some .boolean)) (x1 : Int32) (M : Mem) : BL p l e (rmL 2) s m args below meth c LX D cy ad 2 (QI LX D cy ad) 0 [(0, .ref (ad 2)), (1, .int x1)] [] M (fX3_add n0 x1 M) := by
  unfold fX3_add
  refine b_aload_n hO dX3_add_0 0 rfl rfl ?_
  refine b_getR hO flX3_19 kLX_2 (id := 257) rfl rfl (rk := 0) rfl (by decide) dX3_add_1 (fun hg1 => ?_)
  refine b_iload_n hO dX3_add_4 1 rfl rfl ?_
  refine b_callVV hO mdX0_add mvX0_add w844 (ci := 0) rfl rfl (by decide) hg1 (As := [.int _]) (st := []) (ctX0_add n0 _ hg1 hO.2.2.2.2.2.2.1 _ _) (Nat.le_of_ble_eq_true rfl) rfl rfl (Nat.le_of_ble_eq_true rfl) dX3_add_5 (fun z5 => ?_)
  refine b_iconst hO dX3_add_8 ic_i_1 ?_
  exact b_zretc hO (Or.inr rfl) dX3_add_9
theorem ctX3_add (n0 : Nat) (hI : Inj LX ad) (x1 : Int32) (M : Mem) : CT l LX D cy ad yX3_add cX3_add 2 (some .boolean) 2 (QI LX D cy ad) [.ref (ad 2), .int x1] M (fX3_add n0 x1 M) :=
  CT.mk LXok hI (by decide) (Nat.le_of_ble_eq_true rfl) (fun hO => tfX3_add n0 hO x1 M)
/-! X3_comparisonStep -/
def fX3_comparisonStep (n0 : Nat) (M : Mem) : Option (Int32 × Mem) :=
  if (gI M 386) = 60 then
    some ((-15 : Int32), M)
  else
  if (gI M 386) = 61 then
    some ((-17 : Int32), M)
  else
  if (gI M 386) = 62 then
    some ((-16 : Int32), M)
  else
  some ((0 : Int32), M)
theorem tfX3_comparisonStep (n0 : Nat) (hO : OKc p (rmL 1) s m args meth c LX D cy ad cX3_comparisonStep RX3 1 1 (some .int)) (M : Mem) : BL p l e (rmL 1) s m args below meth c LX D cy ad 1 (QI LX D cy ad) 0 [(0, .ref (ad 2))] [] M (fX3_comparisonStep n0 M) := by
  unfold fX3_comparisonStep
  refine b_aload_n hO dX3_comparisonStep_0 0 rfl rfl ?_
  refine b_get hO flX3_15 kLX_2 (v := .ref (ad 3)) rfl dX3_comparisonStep_1 ?_
  refine b_get hO flX3_30 kLX_3 (v := .int (gI _ 386)) rfl dX3_comparisonStep_4 ?_
  refine b_tabIn hO dX3_comparisonStep_7 (v := 60) (z := 60) (tgt := 32) (by decide) (by decide) (by decide) rfl (by decide) ?_ (fun hn0 => ?_)
  · refine b_bipush hO dX3_comparisonStep_32 ic_b_m15 ?_
    exact b_iret hO dX3_comparisonStep_34
  refine b_tabIn hO dX3_comparisonStep_7 (v := 61) (z := 61) (tgt := 38) (by decide) (by decide) (by decide) rfl (by decide) ?_ (fun hn1 => ?_)
  · refine b_bipush hO dX3_comparisonStep_38 ic_b_m17 ?_
    exact b_iret hO dX3_comparisonStep_40
  refine b_tabIn hO dX3_comparisonStep_7 (v := 62) (z := 62) (tgt := 35) (by decide) (by decide) (by decide) rfl (by decide) ?_ (fun hn2 => ?_)
  · refine b_bipush hO dX3_comparisonStep_35 ic_b_m16 ?_
    exact b_iret hO dX3_comparisonStep_37
  refine b_tabOut hO dX3_comparisonStep_7 (tgt := 41) (by omega) (by decide) ?_
  refine b_iconst hO dX3_comparisonStep_41 ic_i_0 ?_
  exact b_iret hO dX3_comparisonStep_42
theorem ctX3_comparisonStep (n0 : Nat) (hI : Inj LX ad) (M : Mem) : CT l LX D cy ad yX3_comparisonStep cX3_comparisonStep 1 (some .int) 1 (QI LX D cy ad) [.ref (ad 2)] M (fX3_comparisonStep n0 M) :=
  CT.mk LXok hI (by decide) (Nat.le_of_ble_eq_true rfl) (fun hO => tfX3_comparisonStep n0 hO M)
/-! X3_productStep -/
def fX3_productStep (n0 : Nat) (M : Mem) : Option (Int32 × Mem) :=
  if (gI M 386) = 37 then
    some ((-11 : Int32), M)
  else
  if (gI M 386) = 42 then
    some ((-9 : Int32), M)
  else
  if (gI M 386) = 47 then
    some ((-10 : Int32), M)
  else
  some ((0 : Int32), M)
theorem tfX3_productStep (n0 : Nat) (hO : OKc p (rmL 1) s m args meth c LX D cy ad cX3_productStep RX3 1 1 (some .int)) (M : Mem) : BL p l e (rmL 1) s m args below meth c LX D cy ad 1 (QI LX D cy ad) 0 [(0, .ref (ad 2))] [] M (fX3_productStep n0 M) := by
  unfold fX3_productStep
  refine b_aload_n hO dX3_productStep_0 0 rfl rfl ?_
  refine b_get hO flX3_15 kLX_2 (v := .ref (ad 3)) rfl dX3_productStep_1 ?_
  refine b_get hO flX3_30 kLX_3 (v := .int (gI _ 386)) rfl dX3_productStep_4 ?_
  refine b_lookIn hO dX3_productStep_7 (v := 37) (z := 37) (tgt := 46) (by decide) (by decide) rfl (by decide) ?_ (fun hn0 => ?_)
  · refine b_bipush hO dX3_productStep_46 ic_b_m11 ?_
    exact b_iret hO dX3_productStep_48
  refine b_lookIn hO dX3_productStep_7 (v := 42) (z := 42) (tgt := 40) (by decide) (by decide) rfl (by decide) ?_ (fun hn1 => ?_)
  · refine b_bipush hO dX3_productStep_40 ic_b_m9 ?_
    exact b_iret hO dX3_productStep_42
  refine b_lookIn hO dX3_productStep_7 (v := 47) (z := 47) (tgt := 43) (by decide) (by decide) rfl (by decide) ?_ (fun hn2 => ?_)
  · refine b_bipush hO dX3_productStep_43 ic_b_m10 ?_
    exact b_iret hO dX3_productStep_45
  refine b_lookOut hO dX3_productStep_7 (tgt := 49) (by decide) (by rw [lv_osw hn0 (by decide)]; rw [lv_osw hn1 (by decide)]; rw [lv_osw hn2 (by decide)]; rfl) (by decide) ?_
  refine b_iconst hO dX3_productStep_49 ic_i_0 ?_
  exact b_iret hO dX3_productStep_50
theorem ctX3_productStep (n0 : Nat) (hI : Inj LX ad) (M : Mem) : CT l LX D cy ad yX3_productStep cX3_productStep 1 (some .int) 1 (QI LX D cy ad) [.ref (ad 2)] M (fX3_productStep n0 M) :=
  CT.mk LXok hI (by decide) (Nat.le_of_ble_eq_true rfl) (fun hO => tfX3_productStep n0 hO M)
/-! X3_sumStep -/
def fX3_sumStep (n0 : Nat) (M : Mem) : Option (Int32 × Mem) :=
  if (gI M 386) = 43 then
    some ((-7 : Int32), M)
  else
  if (gI M 386) = 45 then
    some ((-8 : Int32), M)
  else
  some ((0 : Int32), M)
theorem tfX3_sumStep (n0 : Nat) (hO : OKc p (rmL 1) s m args meth c LX D cy ad cX3_sumStep RX3 1 1 (some .int)) (M : Mem) : BL p l e (rmL 1) s m args below meth c LX D cy ad 1 (QI LX D cy ad) 0 [(0, .ref (ad 2))] [] M (fX3_sumStep n0 M) := by
  unfold fX3_sumStep
  refine b_aload_n hO dX3_sumStep_0 0 rfl rfl ?_
  refine b_get hO flX3_15 kLX_2 (v := .ref (ad 3)) rfl dX3_sumStep_1 ?_
  refine b_get hO flX3_30 kLX_3 (v := .int (gI _ 386)) rfl dX3_sumStep_4 ?_
  refine b_lookIn hO dX3_sumStep_7 (v := 43) (z := 43) (tgt := 32) (by decide) (by decide) rfl (by decide) ?_ (fun hn0 => ?_)
  · refine b_bipush hO dX3_sumStep_32 ic_b_m7 ?_
    exact b_iret hO dX3_sumStep_34
  refine b_lookIn hO dX3_sumStep_7 (v := 45) (z := 45) (tgt := 35) (by decide) (by decide) rfl (by decide) ?_ (fun hn1 => ?_)
  · refine b_bipush hO dX3_sumStep_35 ic_b_m8 ?_
    exact b_iret hO dX3_sumStep_37
  refine b_lookOut hO dX3_sumStep_7 (tgt := 38) (by decide) (by rw [lv_osw hn0 (by decide)]; rw [lv_osw hn1 (by decide)]; rfl) (by decide) ?_
  refine b_iconst hO dX3_sumStep_38 ic_i_0 ?_
  exact b_iret hO dX3_sumStep_39
theorem ctX3_sumStep (n0 : Nat) (hI : Inj LX ad) (M : Mem) : CT l LX D cy ad yX3_sumStep cX3_sumStep 1 (some .int) 1 (QI LX D cy ad) [.ref (ad 2)] M (fX3_sumStep n0 M) :=
  CT.mk LXok hI (by decide) (Nat.le_of_ble_eq_true rfl) (fun hO => tfX3_sumStep n0 hO M)
def recOK (l : Launch) (G : Lay) (D : va_G) (cy : Nat → ClassId) (ad : Nat → Nat) (B dd : Nat) (rec : Nat → Int32 → Int32 → Mem → Option (Int32 × Mem)) : Prop :=
  (∀ (a : Int32) (M : Mem), CT l G D cy ad yX3_readSum cX3_readSum 4 (some .boolean) (B + dd) (QI G D cy ad) [.ref (ad 2), .int a] M (rec 0 a 0 M)) ∧
  (∀ (a : Int32) (M : Mem), CT l G D cy ad yX3_readProduct cX3_readProduct 4 (some .boolean) (B + dd) (QI G D cy ad) [.ref (ad 2), .int a] M (rec 1 a 0 M)) ∧
  (∀ (a : Int32) (M : Mem), CT l G D cy ad yX3_readPart cX3_readPart 2 (some .boolean) (B + dd) (QI G D cy ad) [.ref (ad 2), .int a] M (rec 2 a 0 M)) ∧
  (∀ (a b : Int32) (M : Mem), CT l G D cy ad yX3_readPair cX3_readPair 3 (some .boolean) (B + dd) (QI G D cy ad) [.ref (ad 2), .int a, .int b] M (rec 3 a b M)) ∧
  (∀ (a : Int32) (M : Mem), CT l G D cy ad yX3_readChoice cX3_readChoice 2 (some .boolean) (B + dd) (QI G D cy ad) [.ref (ad 2), .int a] M (rec 4 a 0 M)) ∧
  (∀ (a : Int32) (M : Mem), CT l G D cy ad yX3_readTest cX3_readTest 3 (some .boolean) (B + dd) (QI G D cy ad) [.ref (ad 2), .int a] M (rec 5 a 0 M)) ∧
  (∀ (a : Int32) (M : Mem), CT l G D cy ad yX3_readBoth cX3_readBoth 3 (some .boolean) (B + dd) (QI G D cy ad) [.ref (ad 2), .int a] M (rec 6 a 0 M)) ∧
  (∀ (a : Int32) (M : Mem), CT l G D cy ad yX3_readFact cX3_readFact 2 (some .boolean) (B + dd) (QI G D cy ad) [.ref (ad 2), .int a] M (rec 7 a 0 M)) ∧
  (∀ (a : Int32) (M : Mem), CT l G D cy ad yX3_readComparison cX3_readComparison 3 (some .boolean) (B + dd) (QI G D cy ad) [.ref (ad 2), .int a] M (rec 8 a 0 M))
/-! X3_readSum -/
def bX3_readSum_12 (n0 : Nat) (rec : Nat → Int32 → Int32 → Mem → Option (Int32 × Mem)) (k12 : Int32 → Int32 → Mem → Option (Int32 × Mem)) (x1 : Int32) (x2 : Int32) (M : Mem) : Option (Int32 × Mem) :=
  if (1600 : Int32) ≤ x2 then
    some ((1 : Int32), M)
  else
    (fX3_sumStep n0 M).bind fun z20 =>
    if z20.1 = 0 then
      some ((1 : Int32), z20.2)
    else
      (fX3_sumStep n0 z20.2).bind fun z27 =>
      (fX8_advance n0 z27.2).bind fun z35 =>
      (rec 1 x1 (0 : Int32) z35).bind fun z40 =>
      if z40.1 = 0 then
        some ((0 : Int32), z40.2)
      else
        (fX0_add n0 (gR z40.2 257) z27.1 z40.2).bind fun z53 =>
        k12 x1 (x2 + (1 : Int32)) z53
def fX3_readSum_12 (n0 : Nat) (rec : Nat → Int32 → Int32 → Mem → Option (Int32 × Mem)) : Int32 → Int32 → Mem → Option (Int32 × Mem) := loopN (bX3_readSum_12 n0 rec) (fun _ _ _ => none) n0
def fX3_readSum (n0 : Nat) (rec : Nat → Int32 → Int32 → Mem → Option (Int32 × Mem)) (x1 : Int32) (M : Mem) : Option (Int32 × Mem) :=
  (rec 1 x1 (0 : Int32) M).bind fun z2 =>
  if z2.1 = 0 then
    some ((0 : Int32), z2.2)
  else
    fX3_readSum_12 n0 rec x1 (0 : Int32) z2.2
theorem tbX3_readSum_12 (n0 : Nat) (rec : Nat → Int32 → Int32 → Mem → Option (Int32 × Mem)) (hO : OKc p (rmL (5 + dd + 1)) s m args meth c LX D cy ad cX3_readSum RX3 4 (5 + dd + 1) (some .boolean)) (hrec : recOK l LX D cy ad 5 dd rec) (k12 : Int32 → Int32 → Mem → Option (Int32 × Mem)) (hk12 : ∀ (x1 : Int32) (x2 : Int32) (M : Mem), BL p l e (rmL (5 + dd + 1)) s m args below meth c LX D cy ad 4 (QI LX D cy ad) 12 [(0, .ref (ad 2)), (1, .int x1), (2, .int x2)] [] M (k12 x1 x2 M)) (x1 : Int32) (x2 : Int32) (M : Mem) : BL p l e (rmL (5 + dd + 1)) s m args below meth c LX D cy ad 4 (QI LX D cy ad) 12 [(0, .ref (ad 2)), (1, .int x1), (2, .int x2)] [] M (bX3_readSum_12 n0 rec k12 x1 x2 M) := by
  unfold bX3_readSum_12
  refine b_iload_n hO dX3_readSum_12 2 rfl rfl ?_
  refine b_sipush hO dX3_readSum_13 ic_s_1600 ?_
  refine b_icmp_ge hO dX3_readSum_16 (tgt := 62) (by decide) ?_ ?_
  · refine b_iconst hO dX3_readSum_62 ic_i_1 ?_
    exact b_zretc hO (Or.inr rfl) dX3_readSum_63
  · refine b_aload_n hO dX3_readSum_19 0 rfl rfl ?_
    refine b_callVI hO mdX3_sumStep mvX3_sumStep w892 (ci := 3) rfl rfl (by decide) kLX_2 (As := []) (st := []) (ctX3_sumStep n0 hO.2.2.2.2.2.2.1 _) (by omega) rfl rfl (Nat.le_of_ble_eq_true rfl) dX3_readSum_20 (fun z20 => ?_)
    refine b_if_eq hO dX3_readSum_23 (tgt := 62) (by decide) ?_ ?_
    · refine b_iconst hO dX3_readSum_62 ic_i_1 ?_
      exact b_zretc hO (Or.inr rfl) dX3_readSum_63
    · refine b_aload_n hO dX3_readSum_26 0 rfl rfl ?_
      refine b_callVI hO mdX3_sumStep mvX3_sumStep w892 (ci := 3) rfl rfl (by decide) kLX_2 (As := []) (st := []) (ctX3_sumStep n0 hO.2.2.2.2.2.2.1 _) (by omega) rfl rfl (Nat.le_of_ble_eq_true rfl) dX3_readSum_27 (fun z27 => ?_)
      refine b_istore_n hO dX3_readSum_30 rfl (by decide) (lv' := [(3, .int _), (0, .ref _), (1, .int _), (2, .int _)]) rfl ?_
      refine b_aload_n hO dX3_readSum_31 1 rfl rfl ?_
      refine b_get hO flX3_15 kLX_2 (v := .ref (ad 3)) rfl dX3_readSum_32 ?_
      refine b_callVV hO mdX8_advance mvX8_advance w848 (ci := 8) rfl rfl (by decide) kLX_3 (As := []) (st := []) (ctX8_advance n0 hO.2.2.2.2.2.2.1 _) (by omega) rfl rfl (Nat.le_of_ble_eq_true rfl) dX3_readSum_35 (fun z35 => ?_)
      refine b_aload_n hO dX3_readSum_38 1 rfl rfl ?_
      refine b_iload_n hO dX3_readSum_39 2 rfl rfl ?_
      refine b_callVI hO mdX3_readProduct mvX3_readProduct w832 (ci := 3) rfl rfl (by decide) kLX_2 (As := [.int _]) (st := []) (hrec.2.1 _ _) (by omega) rfl rfl (Nat.le_of_ble_eq_true rfl) dX3_readSum_40 (fun z40 => ?_)
      refine b_if_ne hO dX3_readSum_43 (tgt := 48) (by decide) ?_ ?_
      · refine b_aload_n hO dX3_readSum_48 1 rfl rfl ?_
        refine b_getR hO flX3_19 kLX_2 (id := 257) rfl rfl (rk := 0) rfl (by decide) dX3_readSum_49 (fun hg1 => ?_)
        refine b_iload_n hO dX3_readSum_52 0 rfl rfl ?_
        refine b_callVV hO mdX0_add mvX0_add w844 (ci := 0) rfl rfl (by decide) hg1 (As := [.int _]) (st := []) (ctX0_add n0 _ hg1 hO.2.2.2.2.2.2.1 _ _) (by omega) rfl rfl (Nat.le_of_ble_eq_true rfl) dX3_readSum_53 (fun z53 => ?_)
        refine b_iinc hO dX3_readSum_56 3 rfl ic_i_1 (by decide) (lv' := [(2, .int _), (3, .int _), (0, .ref _), (1, .int _)]) rfl ?_
        refine b_goto hO dX3_readSum_59 (tgt := 12) (by decide) ?_
        refine b_sub [2, 3, 0] rfl ?_
        exact hk12 _ _ _
      · refine b_iconst hO dX3_readSum_46 ic_i_0 ?_
        exact b_zretc hO (Or.inl rfl) dX3_readSum_47
theorem lX3_readSum_12 (n0 : Nat) (rec : Nat → Int32 → Int32 → Mem → Option (Int32 × Mem)) (hO : OKc p (rmL (5 + dd + 1)) s m args meth c LX D cy ad cX3_readSum RX3 4 (5 + dd + 1) (some .boolean)) (hrec : recOK l LX D cy ad 5 dd rec) : ∀ (w : Nat) (x1 : Int32) (x2 : Int32) (M : Mem), BL p l e (rmL (5 + dd + 1)) s m args below meth c LX D cy ad 4 (QI LX D cy ad) 12 [(0, .ref (ad 2)), (1, .int x1), (2, .int x2)] [] M (loopN (bX3_readSum_12 n0 rec) (fun _ _ _ => none) w x1 x2 M) := by
  intro w
  induction w with
  | zero =>
    intros
    exact b_none
  | succ w ih =>
    intro x1 x2 M
    exact tbX3_readSum_12 n0 rec hO hrec _ ih x1 x2 M
theorem tfX3_readSum_12 (n0 : Nat) (rec : Nat → Int32 → Int32 → Mem → Option (Int32 × Mem)) (hO : OKc p (rmL (5 + dd + 1)) s m args meth c LX D cy ad cX3_readSum RX3 4 (5 + dd + 1) (some .boolean)) (hrec : recOK l LX D cy ad 5 dd rec) (x1 : Int32) (x2 : Int32) (M : Mem) : BL p l e (rmL (5 + dd + 1)) s m args below meth c LX D cy ad 4 (QI LX D cy ad) 12 [(0, .ref (ad 2)), (1, .int x1), (2, .int x2)] [] M (fX3_readSum_12 n0 rec x1 x2 M) := lX3_readSum_12 n0 rec hO hrec n0 x1 x2 M
theorem tfX3_readSum (n0 : Nat) (rec : Nat → Int32 → Int32 → Mem → Option (Int32 × Mem)) (hO : OKc p (rmL (5 + dd + 1)) s m args meth c LX D cy ad cX3_readSum RX3 4 (5 + dd + 1) (some .boolean)) (hrec : recOK l LX D cy ad 5 dd rec) (x1 : Int32) (M : Mem) : BL p l e (rmL (5 + dd + 1)) s m args below meth c LX D cy ad 4 (QI LX D cy ad) 0 [(0, .ref (ad 2)), (1, .int x1)] [] M (fX3_readSum n0 rec x1 M) := by
  unfold fX3_readSum
  refine b_aload_n hO dX3_readSum_0 0 rfl rfl ?_
  refine b_iload_n hO dX3_readSum_1 1 rfl rfl ?_
  refine b_callVI hO mdX3_readProduct mvX3_readProduct w832 (ci := 3) rfl rfl (by decide) kLX_2 (As := [.int _]) (st := []) (hrec.2.1 _ _) (by omega) rfl rfl (Nat.le_of_ble_eq_true rfl) dX3_readSum_2 (fun z2 => ?_)
  refine b_if_ne hO dX3_readSum_5 (tgt := 10) (by decide) ?_ ?_
  · refine b_iconst hO dX3_readSum_10 ic_i_0 ?_
    refine b_istore_n hO dX3_readSum_11 rfl (by decide) (lv' := [(2, .int _), (0, .ref _), (1, .int _)]) rfl ?_
    refine b_sub [1, 2, 0] rfl ?_
    exact tfX3_readSum_12 n0 rec hO hrec _ _ _
  · refine b_iconst hO dX3_readSum_8 ic_i_0 ?_
    exact b_zretc hO (Or.inl rfl) dX3_readSum_9
theorem ctX3_readSum (n0 : Nat) (rec : Nat → Int32 → Int32 → Mem → Option (Int32 × Mem)) (hI : Inj LX ad) (hrec : recOK l LX D cy ad 5 dd rec) (x1 : Int32) (M : Mem) : CT l LX D cy ad yX3_readSum cX3_readSum 4 (some .boolean) (5 + dd + 1) (QI LX D cy ad) [.ref (ad 2), .int x1] M (fX3_readSum n0 rec x1 M) :=
  CT.mk LXok hI (by decide) (Nat.le_of_ble_eq_true rfl) (fun hO => tfX3_readSum n0 rec hO hrec x1 M)
/-! X3_readProduct -/
def bX3_readProduct_12 (n0 : Nat) (rec : Nat → Int32 → Int32 → Mem → Option (Int32 × Mem)) (k12 : Int32 → Int32 → Mem → Option (Int32 × Mem)) (x1 : Int32) (x2 : Int32) (M : Mem) : Option (Int32 × Mem) :=
  if (1600 : Int32) ≤ x2 then
    some ((1 : Int32), M)
  else
    (fX3_productStep n0 M).bind fun z20 =>
    if z20.1 = 0 then
      some ((1 : Int32), z20.2)
    else
      (fX3_productStep n0 z20.2).bind fun z27 =>
      (fX8_advance n0 z27.2).bind fun z35 =>
      (rec 2 x1 (0 : Int32) z35).bind fun z40 =>
      if z40.1 = 0 then
        some ((0 : Int32), z40.2)
      else
        (fX0_add n0 (gR z40.2 257) z27.1 z40.2).bind fun z53 =>
        k12 x1 (x2 + (1 : Int32)) z53
def fX3_readProduct_12 (n0 : Nat) (rec : Nat → Int32 → Int32 → Mem → Option (Int32 × Mem)) : Int32 → Int32 → Mem → Option (Int32 × Mem) := loopN (bX3_readProduct_12 n0 rec) (fun _ _ _ => none) n0
def fX3_readProduct (n0 : Nat) (rec : Nat → Int32 → Int32 → Mem → Option (Int32 × Mem)) (x1 : Int32) (M : Mem) : Option (Int32 × Mem) :=
  (rec 2 x1 (0 : Int32) M).bind fun z2 =>
  if z2.1 = 0 then
    some ((0 : Int32), z2.2)
  else
    fX3_readProduct_12 n0 rec x1 (0 : Int32) z2.2
theorem tbX3_readProduct_12 (n0 : Nat) (rec : Nat → Int32 → Int32 → Mem → Option (Int32 × Mem)) (hO : OKc p (rmL (5 + dd + 1)) s m args meth c LX D cy ad cX3_readProduct RX3 4 (5 + dd + 1) (some .boolean)) (hrec : recOK l LX D cy ad 5 dd rec) (k12 : Int32 → Int32 → Mem → Option (Int32 × Mem)) (hk12 : ∀ (x1 : Int32) (x2 : Int32) (M : Mem), BL p l e (rmL (5 + dd + 1)) s m args below meth c LX D cy ad 4 (QI LX D cy ad) 12 [(0, .ref (ad 2)), (1, .int x1), (2, .int x2)] [] M (k12 x1 x2 M)) (x1 : Int32) (x2 : Int32) (M : Mem) : BL p l e (rmL (5 + dd + 1)) s m args below meth c LX D cy ad 4 (QI LX D cy ad) 12 [(0, .ref (ad 2)), (1, .int x1), (2, .int x2)] [] M (bX3_readProduct_12 n0 rec k12 x1 x2 M) := by
  unfold bX3_readProduct_12
  refine b_iload_n hO dX3_readProduct_12 2 rfl rfl ?_
  refine b_sipush hO dX3_readProduct_13 ic_s_1600 ?_
  refine b_icmp_ge hO dX3_readProduct_16 (tgt := 62) (by decide) ?_ ?_
  · refine b_iconst hO dX3_readProduct_62 ic_i_1 ?_
    exact b_zretc hO (Or.inr rfl) dX3_readProduct_63
  · refine b_aload_n hO dX3_readProduct_19 0 rfl rfl ?_
    refine b_callVI hO mdX3_productStep mvX3_productStep w888 (ci := 3) rfl rfl (by decide) kLX_2 (As := []) (st := []) (ctX3_productStep n0 hO.2.2.2.2.2.2.1 _) (by omega) rfl rfl (Nat.le_of_ble_eq_true rfl) dX3_readProduct_20 (fun z20 => ?_)
    refine b_if_eq hO dX3_readProduct_23 (tgt := 62) (by decide) ?_ ?_
    · refine b_iconst hO dX3_readProduct_62 ic_i_1 ?_
      exact b_zretc hO (Or.inr rfl) dX3_readProduct_63
    · refine b_aload_n hO dX3_readProduct_26 0 rfl rfl ?_
      refine b_callVI hO mdX3_productStep mvX3_productStep w888 (ci := 3) rfl rfl (by decide) kLX_2 (As := []) (st := []) (ctX3_productStep n0 hO.2.2.2.2.2.2.1 _) (by omega) rfl rfl (Nat.le_of_ble_eq_true rfl) dX3_readProduct_27 (fun z27 => ?_)
      refine b_istore_n hO dX3_readProduct_30 rfl (by decide) (lv' := [(3, .int _), (0, .ref _), (1, .int _), (2, .int _)]) rfl ?_
      refine b_aload_n hO dX3_readProduct_31 1 rfl rfl ?_
      refine b_get hO flX3_15 kLX_2 (v := .ref (ad 3)) rfl dX3_readProduct_32 ?_
      refine b_callVV hO mdX8_advance mvX8_advance w848 (ci := 8) rfl rfl (by decide) kLX_3 (As := []) (st := []) (ctX8_advance n0 hO.2.2.2.2.2.2.1 _) (by omega) rfl rfl (Nat.le_of_ble_eq_true rfl) dX3_readProduct_35 (fun z35 => ?_)
      refine b_aload_n hO dX3_readProduct_38 1 rfl rfl ?_
      refine b_iload_n hO dX3_readProduct_39 2 rfl rfl ?_
      refine b_callVI hO mdX3_readPart mvX3_readPart w836 (ci := 3) rfl rfl (by decide) kLX_2 (As := [.int _]) (st := []) (hrec.2.2.1 _ _) (by omega) rfl rfl (Nat.le_of_ble_eq_true rfl) dX3_readProduct_40 (fun z40 => ?_)
      refine b_if_ne hO dX3_readProduct_43 (tgt := 48) (by decide) ?_ ?_
      · refine b_aload_n hO dX3_readProduct_48 1 rfl rfl ?_
        refine b_getR hO flX3_19 kLX_2 (id := 257) rfl rfl (rk := 0) rfl (by decide) dX3_readProduct_49 (fun hg1 => ?_)
        refine b_iload_n hO dX3_readProduct_52 0 rfl rfl ?_
        refine b_callVV hO mdX0_add mvX0_add w844 (ci := 0) rfl rfl (by decide) hg1 (As := [.int _]) (st := []) (ctX0_add n0 _ hg1 hO.2.2.2.2.2.2.1 _ _) (by omega) rfl rfl (Nat.le_of_ble_eq_true rfl) dX3_readProduct_53 (fun z53 => ?_)
        refine b_iinc hO dX3_readProduct_56 3 rfl ic_i_1 (by decide) (lv' := [(2, .int _), (3, .int _), (0, .ref _), (1, .int _)]) rfl ?_
        refine b_goto hO dX3_readProduct_59 (tgt := 12) (by decide) ?_
        refine b_sub [2, 3, 0] rfl ?_
        exact hk12 _ _ _
      · refine b_iconst hO dX3_readProduct_46 ic_i_0 ?_
        exact b_zretc hO (Or.inl rfl) dX3_readProduct_47
theorem lX3_readProduct_12 (n0 : Nat) (rec : Nat → Int32 → Int32 → Mem → Option (Int32 × Mem)) (hO : OKc p (rmL (5 + dd + 1)) s m args meth c LX D cy ad cX3_readProduct RX3 4 (5 + dd + 1) (some .boolean)) (hrec : recOK l LX D cy ad 5 dd rec) : ∀ (w : Nat) (x1 : Int32) (x2 : Int32) (M : Mem), BL p l e (rmL (5 + dd + 1)) s m args below meth c LX D cy ad 4 (QI LX D cy ad) 12 [(0, .ref (ad 2)), (1, .int x1), (2, .int x2)] [] M (loopN (bX3_readProduct_12 n0 rec) (fun _ _ _ => none) w x1 x2 M) := by
  intro w
  induction w with
  | zero =>
    intros
    exact b_none
  | succ w ih =>
    intro x1 x2 M
    exact tbX3_readProduct_12 n0 rec hO hrec _ ih x1 x2 M
theorem tfX3_readProduct_12 (n0 : Nat) (rec : Nat → Int32 → Int32 → Mem → Option (Int32 × Mem)) (hO : OKc p (rmL (5 + dd + 1)) s m args meth c LX D cy ad cX3_readProduct RX3 4 (5 + dd + 1) (some .boolean)) (hrec : recOK l LX D cy ad 5 dd rec) (x1 : Int32) (x2 : Int32) (M : Mem) : BL p l e (rmL (5 + dd + 1)) s m args below meth c LX D cy ad 4 (QI LX D cy ad) 12 [(0, .ref (ad 2)), (1, .int x1), (2, .int x2)] [] M (fX3_readProduct_12 n0 rec x1 x2 M) := lX3_readProduct_12 n0 rec hO hrec n0 x1 x2 M
theorem tfX3_readProduct (n0 : Nat) (rec : Nat → Int32 → Int32 → Mem → Option (Int32 × Mem)) (hO : OKc p (rmL (5 + dd + 1)) s m args meth c LX D cy ad cX3_readProduct RX3 4 (5 + dd + 1) (some .boolean)) (hrec : recOK l LX D cy ad 5 dd rec) (x1 : Int32) (M : Mem) : BL p l e (rmL (5 + dd + 1)) s m args below meth c LX D cy ad 4 (QI LX D cy ad) 0 [(0, .ref (ad 2)), (1, .int x1)] [] M (fX3_readProduct n0 rec x1 M) := by
  unfold fX3_readProduct
  refine b_aload_n hO dX3_readProduct_0 0 rfl rfl ?_
  refine b_iload_n hO dX3_readProduct_1 1 rfl rfl ?_
  refine b_callVI hO mdX3_readPart mvX3_readPart w836 (ci := 3) rfl rfl (by decide) kLX_2 (As := [.int _]) (st := []) (hrec.2.2.1 _ _) (by omega) rfl rfl (Nat.le_of_ble_eq_true rfl) dX3_readProduct_2 (fun z2 => ?_)
  refine b_if_ne hO dX3_readProduct_5 (tgt := 10) (by decide) ?_ ?_
  · refine b_iconst hO dX3_readProduct_10 ic_i_0 ?_
    refine b_istore_n hO dX3_readProduct_11 rfl (by decide) (lv' := [(2, .int _), (0, .ref _), (1, .int _)]) rfl ?_
    refine b_sub [1, 2, 0] rfl ?_
    exact tfX3_readProduct_12 n0 rec hO hrec _ _ _
  · refine b_iconst hO dX3_readProduct_8 ic_i_0 ?_
    exact b_zretc hO (Or.inl rfl) dX3_readProduct_9
theorem ctX3_readProduct (n0 : Nat) (rec : Nat → Int32 → Int32 → Mem → Option (Int32 × Mem)) (hI : Inj LX ad) (hrec : recOK l LX D cy ad 5 dd rec) (x1 : Int32) (M : Mem) : CT l LX D cy ad yX3_readProduct cX3_readProduct 4 (some .boolean) (5 + dd + 1) (QI LX D cy ad) [.ref (ad 2), .int x1] M (fX3_readProduct n0 rec x1 M) :=
  CT.mk LXok hI (by decide) (Nat.le_of_ble_eq_true rfl) (fun hO => tfX3_readProduct n0 rec hO hrec x1 M)
/-! X3_readPart -/
def fX3_readPart (n0 : Nat) (rec : Nat → Int32 → Int32 → Mem → Option (Int32 × Mem)) (x1 : Int32) (M : Mem) : Option (Int32 × Mem) :=
  if (gI M 386) = 40 then
    (fX3_goIn n0 (40 : Int32) x1 M).bind fun z217 =>
    if z217.1 = 0 then
      some ((0 : Int32), z217.2)
    else
      (rec 0 (x1 + (1 : Int32)) (0 : Int32) z217.2).bind fun z227 =>
      if z227.1 = 0 then
        some ((0 : Int32), z227.2)
      else
        (fX8_skip n0 (41 : Int32) z227.2).bind fun z239 =>
        if z239.1 = 0 then
          some ((0 : Int32), z239.2)
        else
          some ((1 : Int32), z239.2)
  else
  if (gI M 386) = 256 then
    (fX3_addAndAdvance n0 (gI M 389) M).bind fun z112 =>
    if z112.1 = 0 ∨ z112.1 = 1 then some (z112.1, z112.2) else none
  else
  if (gI M 386) = 261 then
    (fX3_addAndAdvance n0 (-1 : Int32) M).bind fun z118 =>
    if z118.1 = 0 ∨ z118.1 = 1 then some (z118.1, z118.2) else none
  else
  if (gI M 386) = 262 then
    if (gI M 258) = 0 then
      (fX8_failHere n0 M).bind fun z187 =>
      if z187.1 = 0 ∨ z187.1 = 1 then some (z187.1, z187.2) else none
    else
      (fX3_addAndAdvance n0 (-6 : Int32) M).bind fun z177 =>
      if z177.1 = 0 ∨ z177.1 = 1 then some (z177.1, z177.2) else none
  else
  if (gI M 386) = 263 then
    (fX3_addAndAdvance n0 (-3 : Int32) M).bind fun z132 =>
    if z132.1 = 0 ∨ z132.1 = 1 then some (z132.1, z132.2) else none
  else
  if (gI M 386) = 275 then
    (fX3_addAndAdvance n0 (-2 : Int32) M).bind fun z125 =>
    if z125.1 = 0 ∨ z125.1 = 1 then some (z125.1, z125.2) else none
  else
  if (gI M 386) = 276 then
    (fX3_addAndAdvance n0 (-4 : Int32) M).bind fun z139 =>
    if z139.1 = 0 ∨ z139.1 = 1 then some (z139.1, z139.2) else none
  else
  if (gI M 386) = 277 then
    if (gI M 258) = 0 then
      (fX3_addAndAdvance n0 (-5 : Int32) M).bind fun z163 =>
      if z163.1 = 0 ∨ z163.1 = 1 then some (z163.1, z163.2) else none
    else
      (fX8_failHere n0 M).bind fun z154 =>
      if z154.1 = 0 ∨ z154.1 = 1 then some (z154.1, z154.2) else none
  else
  if (gI M 386) = 278 then
    (rec 4 x1 (0 : Int32) M).bind fun z209 =>
    if z209.1 = 0 ∨ z209.1 = 1 then some (z209.1, z209.2) else none
  else
  if (gI M 386) = 283 then
    (rec 3 x1 (-12 : Int32) M).bind fun z195 =>
    if z195.1 = 0 ∨ z195.1 = 1 then some (z195.1, z195.2) else none
  else
  if (gI M 386) = 284 then
    (rec 3 x1 (-13 : Int32) M).bind fun z203 =>
    if z203.1 = 0 ∨ z203.1 = 1 then some (z203.1, z203.2) else none
  else
  (fX8_failHere n0 M).bind fun z255 =>
  if z255.1 = 0 ∨ z255.1 = 1 then some (z255.1, z255.2) else none
theorem tfX3_readPart (n0 : Nat) (rec : Nat → Int32 → Int32 → Mem → Option (Int32 × Mem)) (hO : OKc p (rmL (5 + dd + 1)) s m args meth c LX D cy ad cX3_readPart RX3 2 (5 + dd + 1) (some .boolean)) (hrec : recOK l LX D cy ad 5 dd rec) (x1 : Int32) (M : Mem) : BL p l e (rmL (5 + dd + 1)) s m args below meth c LX D cy ad 2 (QI LX D cy ad) 0 [(0, .ref (ad 2)), (1, .int x1)] [] M (fX3_readPart n0 rec x1 M) := by
  unfold fX3_readPart
  refine b_aload_n hO dX3_readPart_0 0 rfl rfl ?_
  refine b_get hO flX3_15 kLX_2 (v := .ref (ad 3)) rfl dX3_readPart_1 ?_
  refine b_get hO flX3_30 kLX_3 (v := .int (gI _ 386)) rfl dX3_readPart_4 ?_
  refine b_lookIn hO dX3_readPart_7 (v := 40) (z := 40) (tgt := 213) (by decide) (by decide) rfl (by decide) ?_ (fun hn0 => ?_)
  · refine b_aload_n hO dX3_readPart_213 0 rfl rfl ?_
    refine b_bipush hO dX3_readPart_214 ic_b_40 ?_
    refine b_iload_n hO dX3_readPart_216 1 rfl rfl ?_
    refine b_callVI hO mdX3_goIn mvX3_goIn w854 (ci := 3) rfl rfl (by decide) kLX_2 (As := [.int _, .int _]) (st := []) (ctX3_goIn n0 hO.2.2.2.2.2.2.1 _ _ _) (by omega) rfl rfl (Nat.le_of_ble_eq_true rfl) dX3_readPart_217 (fun z217 => ?_)
    refine b_if_eq hO dX3_readPart_220 (tgt := 249) (by decide) ?_ ?_
    · refine b_iconst hO dX3_readPart_249 ic_i_0 ?_
      exact b_zretc hO (Or.inl rfl) dX3_readPart_250
    · refine b_aload_n hO dX3_readPart_223 0 rfl rfl ?_
      refine b_iload_n hO dX3_readPart_224 1 rfl rfl ?_
      refine b_iconst hO dX3_readPart_225 ic_i_1 ?_
      refine b_iadd hO dX3_readPart_226 ?_
      refine b_callVI hO mdX3_readSum mvX3_readSum w828 (ci := 3) rfl rfl (by decide) kLX_2 (As := [.int _]) (st := []) (hrec.1 _ _) (by omega) rfl rfl (Nat.le_of_ble_eq_true rfl) dX3_readPart_227 (fun z227 => ?_)
      refine b_if_eq hO dX3_readPart_230 (tgt := 249) (by decide) ?_ ?_
      · refine b_iconst hO dX3_readPart_249 ic_i_0 ?_
        exact b_zretc hO (Or.inl rfl) dX3_readPart_250
      · refine b_aload_n hO dX3_readPart_233 0 rfl rfl ?_
        refine b_get hO flX3_15 kLX_2 (v := .ref (ad 3)) rfl dX3_readPart_234 ?_
        refine b_bipush hO dX3_readPart_237 ic_b_41 ?_
        refine b_callVI hO mdX8_skip mvX8_skip w859 (ci := 8) rfl rfl (by decide) kLX_3 (As := [.int _]) (st := []) (ctX8_skip n0 hO.2.2.2.2.2.2.1 _ _) (by omega) rfl rfl (Nat.le_of_ble_eq_true rfl) dX3_readPart_239 (fun z239 => ?_)
        refine b_if_eq hO dX3_readPart_242 (tgt := 249) (by decide) ?_ ?_
        · refine b_iconst hO dX3_readPart_249 ic_i_0 ?_
          exact b_zretc hO (Or.inl rfl) dX3_readPart_250
        · refine b_iconst hO dX3_readPart_245 ic_i_1 ?_
          refine b_goto hO dX3_readPart_246 (tgt := 250) (by decide) ?_
          exact b_zretc hO (Or.inr rfl) dX3_readPart_250
  refine b_lookIn hO dX3_readPart_7 (v := 256) (z := 256) (tgt := 104) (by decide) (by decide) rfl (by decide) ?_ (fun hn1 => ?_)
  · refine b_aload_n hO dX3_readPart_104 0 rfl rfl ?_
    refine b_aload_n hO dX3_readPart_105 0 rfl rfl ?_
    refine b_get hO flX3_15 kLX_2 (v := .ref (ad 3)) rfl dX3_readPart_106 ?_
    refine b_get hO flX3_69 kLX_3 (v := .int (gI _ 389)) rfl dX3_readPart_109 ?_
    refine b_callVI hO mdX3_addAndAdvance mvX3_addAndAdvance w840 (ci := 3) rfl rfl (by decide) kLX_2 (As := [.int _]) (st := []) (ctX3_addAndAdvance n0 hO.2.2.2.2.2.2.1 _ _) (by omega) rfl rfl (Nat.le_of_ble_eq_true rfl) dX3_readPart_112 (fun z112 => ?_)
    exact b_zret hO dX3_readPart_115
  refine b_lookIn hO dX3_readPart_7 (v := 261) (z := 261) (tgt := 116) (by decide) (by decide) rfl (by decide) ?_ (fun hn2 => ?_)
  · refine b_aload_n hO dX3_readPart_116 0 rfl rfl ?_
    refine b_iconst hO dX3_readPart_117 ic_i_m1 ?_
    refine b_callVI hO mdX3_addAndAdvance mvX3_addAndAdvance w840 (ci := 3) rfl rfl (by decide) kLX_2 (As := [.int _]) (st := []) (ctX3_addAndAdvance n0 hO.2.2.2.2.2.2.1 _ _) (by omega) rfl rfl (Nat.le_of_ble_eq_true rfl) dX3_readPart_118 (fun z118 => ?_)
    exact b_zret hO dX3_readPart_121
  refine b_lookIn hO dX3_readPart_7 (v := 262) (z := 262) (tgt := 167) (by decide) (by decide) rfl (by decide) ?_ (fun hn3 => ?_)
  · refine b_aload_n hO dX3_readPart_167 0 rfl rfl ?_
    refine b_get hO flX3_9 kLX_2 (v := .int (gI _ 258)) rfl dX3_readPart_168 ?_
    refine b_if_eq hO dX3_readPart_171 (tgt := 183) (by decide) ?_ ?_
    · refine b_aload_n hO dX3_readPart_183 0 rfl rfl ?_
      refine b_get hO flX3_15 kLX_2 (v := .ref (ad 3)) rfl dX3_readPart_184 ?_
      refine b_callVI hO mdX8_failHere mvX8_failHere w849 (ci := 8) rfl rfl (by decide) kLX_3 (As := []) (st := []) (ctX8_failHere n0 hO.2.2.2.2.2.2.1 _) (by omega) rfl rfl (Nat.le_of_ble_eq_true rfl) dX3_readPart_187 (fun z187 => ?_)
      exact b_zret hO dX3_readPart_190
    · refine b_aload_n hO dX3_readPart_174 0 rfl rfl ?_
      refine b_bipush hO dX3_readPart_175 ic_b_m6 ?_
      refine b_callVI hO mdX3_addAndAdvance mvX3_addAndAdvance w840 (ci := 3) rfl rfl (by decide) kLX_2 (As := [.int _]) (st := []) (ctX3_addAndAdvance n0 hO.2.2.2.2.2.2.1 _ _) (by omega) rfl rfl (Nat.le_of_ble_eq_true rfl) dX3_readPart_177 (fun z177 => ?_)
      refine b_goto hO dX3_readPart_180 (tgt := 190) (by decide) ?_
      exact b_zret hO dX3_readPart_190
  refine b_lookIn hO dX3_readPart_7 (v := 263) (z := 263) (tgt := 129) (by decide) (by decide) rfl (by decide) ?_ (fun hn4 => ?_)
  · refine b_aload_n hO dX3_readPart_129 0 rfl rfl ?_
    refine b_bipush hO dX3_readPart_130 ic_b_m3 ?_
    refine b_callVI hO mdX3_addAndAdvance mvX3_addAndAdvance w840 (ci := 3) rfl rfl (by decide) kLX_2 (As := [.int _]) (st := []) (ctX3_addAndAdvance n0 hO.2.2.2.2.2.2.1 _ _) (by omega) rfl rfl (Nat.le_of_ble_eq_true rfl) dX3_readPart_132 (fun z132 => ?_)
    exact b_zret hO dX3_readPart_135
  refine b_lookIn hO dX3_readPart_7 (v := 275) (z := 275) (tgt := 122) (by decide) (by decide) rfl (by decide) ?_ (fun hn5 => ?_)
  · refine b_aload_n hO dX3_readPart_122 0 rfl rfl ?_
    refine b_bipush hO dX3_readPart_123 ic_b_m2 ?_
    refine b_callVI hO mdX3_addAndAdvance mvX3_addAndAdvance w840 (ci := 3) rfl rfl (by decide) kLX_2 (As := [.int _]) (st := []) (ctX3_addAndAdvance n0 hO.2.2.2.2.2.2.1 _ _) (by omega) rfl rfl (Nat.le_of_ble_eq_true rfl) dX3_readPart_125 (fun z125 => ?_)
    exact b_zret hO dX3_readPart_128
  refine b_lookIn hO dX3_readPart_7 (v := 276) (z := 276) (tgt := 136) (by decide) (by decide) rfl (by decide) ?_ (fun hn6 => ?_)
  · refine b_aload_n hO dX3_readPart_136 0 rfl rfl ?_
    refine b_bipush hO dX3_readPart_137 ic_b_m4 ?_
    refine b_callVI hO mdX3_addAndAdvance mvX3_addAndAdvance w840 (ci := 3) rfl rfl (by decide) kLX_2 (As := [.int _]) (st := []) (ctX3_addAndAdvance n0 hO.2.2.2.2.2.2.1 _ _) (by omega) rfl rfl (Nat.le_of_ble_eq_true rfl) dX3_readPart_139 (fun z139 => ?_)
    exact b_zret hO dX3_readPart_142
  refine b_lookIn hO dX3_readPart_7 (v := 277) (z := 277) (tgt := 143) (by decide) (by decide) rfl (by decide) ?_ (fun hn7 => ?_)
  · refine b_aload_n hO dX3_readPart_143 0 rfl rfl ?_
    refine b_get hO flX3_9 kLX_2 (v := .int (gI _ 258)) rfl dX3_readPart_144 ?_
    refine b_if_eq hO dX3_readPart_147 (tgt := 160) (by decide) ?_ ?_
    · refine b_aload_n hO dX3_readPart_160 0 rfl rfl ?_
      refine b_bipush hO dX3_readPart_161 ic_b_m5 ?_
      refine b_callVI hO mdX3_addAndAdvance mvX3_addAndAdvance w840 (ci := 3) rfl rfl (by decide) kLX_2 (As := [.int _]) (st := []) (ctX3_addAndAdvance n0 hO.2.2.2.2.2.2.1 _ _) (by omega) rfl rfl (Nat.le_of_ble_eq_true rfl) dX3_readPart_163 (fun z163 => ?_)
      exact b_zret hO dX3_readPart_166
    · refine b_aload_n hO dX3_readPart_150 0 rfl rfl ?_
      refine b_get hO flX3_15 kLX_2 (v := .ref (ad 3)) rfl dX3_readPart_151 ?_
      refine b_callVI hO mdX8_failHere mvX8_failHere w849 (ci := 8) rfl rfl (by decide) kLX_3 (As := []) (st := []) (ctX8_failHere n0 hO.2.2.2.2.2.2.1 _) (by omega) rfl rfl (Nat.le_of_ble_eq_true rfl) dX3_readPart_154 (fun z154 => ?_)
      refine b_goto hO dX3_readPart_157 (tgt := 166) (by decide) ?_
      exact b_zret hO dX3_readPart_166
  refine b_lookIn hO dX3_readPart_7 (v := 278) (z := 278) (tgt := 207) (by decide) (by decide) rfl (by decide) ?_ (fun hn8 => ?_)
  · refine b_aload_n hO dX3_readPart_207 0 rfl rfl ?_
    refine b_iload_n hO dX3_readPart_208 1 rfl rfl ?_
    refine b_callVI hO mdX3_readChoice mvX3_readChoice w864 (ci := 3) rfl rfl (by decide) kLX_2 (As := [.int _]) (st := []) (hrec.2.2.2.2.1 _ _) (by omega) rfl rfl (Nat.le_of_ble_eq_true rfl) dX3_readPart_209 (fun z209 => ?_)
    exact b_zret hO dX3_readPart_212
  refine b_lookIn hO dX3_readPart_7 (v := 283) (z := 283) (tgt := 191) (by decide) (by decide) rfl (by decide) ?_ (fun hn9 => ?_)
  · refine b_aload_n hO dX3_readPart_191 0 rfl rfl ?_
    refine b_iload_n hO dX3_readPart_192 1 rfl rfl ?_
    refine b_bipush hO dX3_readPart_193 ic_b_m12 ?_
    refine b_callVI hO mdX3_readPair mvX3_readPair w850 (ci := 3) rfl rfl (by decide) kLX_2 (As := [.int _, .int _]) (st := []) (hrec.2.2.2.1 _ _ _) (by omega) rfl rfl (Nat.le_of_ble_eq_true rfl) dX3_readPart_195 (fun z195 => ?_)
    exact b_zret hO dX3_readPart_198
  refine b_lookIn hO dX3_readPart_7 (v := 284) (z := 284) (tgt := 199) (by decide) (by decide) rfl (by decide) ?_ (fun hn10 => ?_)
  · refine b_aload_n hO dX3_readPart_199 0 rfl rfl ?_
    refine b_iload_n hO dX3_readPart_200 1 rfl rfl ?_
    refine b_bipush hO dX3_readPart_201 ic_b_m13 ?_
    refine b_callVI hO mdX3_readPair mvX3_readPair w850 (ci := 3) rfl rfl (by decide) kLX_2 (As := [.int _, .int _]) (st := []) (hrec.2.2.2.1 _ _ _) (by omega) rfl rfl (Nat.le_of_ble_eq_true rfl) dX3_readPart_203 (fun z203 => ?_)
    exact b_zret hO dX3_readPart_206
  refine b_lookOut hO dX3_readPart_7 (tgt := 251) (by decide) (by rw [lv_osw hn0 (by decide)]; rw [lv_osw hn1 (by decide)]; rw [lv_osw hn2 (by decide)]; rw [lv_osw hn3 (by decide)]; rw [lv_osw hn4 (by decide)]; rw [lv_osw hn5 (by decide)]; rw [lv_osw hn6 (by decide)]; rw [lv_osw hn7 (by decide)]; rw [lv_osw hn8 (by decide)]; rw [lv_osw hn9 (by decide)]; rw [lv_osw hn10 (by decide)]; rfl) (by decide) ?_
  refine b_aload_n hO dX3_readPart_251 0 rfl rfl ?_
  refine b_get hO flX3_15 kLX_2 (v := .ref (ad 3)) rfl dX3_readPart_252 ?_
  refine b_callVI hO mdX8_failHere mvX8_failHere w849 (ci := 8) rfl rfl (by decide) kLX_3 (As := []) (st := []) (ctX8_failHere n0 hO.2.2.2.2.2.2.1 _) (by omega) rfl rfl (Nat.le_of_ble_eq_true rfl) dX3_readPart_255 (fun z255 => ?_)
  exact b_zret hO dX3_readPart_258
theorem ctX3_readPart (n0 : Nat) (rec : Nat → Int32 → Int32 → Mem → Option (Int32 × Mem)) (hI : Inj LX ad) (hrec : recOK l LX D cy ad 5 dd rec) (x1 : Int32) (M : Mem) : CT l LX D cy ad yX3_readPart cX3_readPart 2 (some .boolean) (5 + dd + 1) (QI LX D cy ad) [.ref (ad 2), .int x1] M (fX3_readPart n0 rec x1 M) :=
  CT.mk LXok hI (by decide) (Nat.le_of_ble_eq_true rfl) (fun hO => tfX3_readPart n0 rec hO hrec x1 M)
/-! X3_readPair -/
def fX3_readPair (n0 : Nat) (rec : Nat → Int32 → Int32 → Mem → Option (Int32 × Mem)) (x1 : Int32) (x2 : Int32) (M : Mem) : Option (Int32 × Mem) :=
  (fX8_advance n0 M).bind fun z4 =>
  (fX3_goIn n0 (40 : Int32) x1 z4).bind fun z11 =>
  if z11.1 = 0 then
    some ((0 : Int32), z11.2)
  else
    (rec 0 (x1 + (1 : Int32)) (0 : Int32) z11.2).bind fun z21 =>
    if z21.1 = 0 then
      some ((0 : Int32), z21.2)
    else
      (fX8_skip n0 (44 : Int32) z21.2).bind fun z33 =>
      if z33.1 = 0 then
        some ((0 : Int32), z33.2)
      else
        (rec 0 (x1 + (1 : Int32)) (0 : Int32) z33.2).bind fun z43 =>
        if z43.1 = 0 then
          some ((0 : Int32), z43.2)
        else
          (fX8_skip n0 (41 : Int32) z43.2).bind fun z55 =>
          if z55.1 = 0 then
            some ((0 : Int32), z55.2)
          else
            (fX3_add n0 x2 z55.2).bind fun z63 =>
            if z63.1 = 0 then
              some ((0 : Int32), z63.2)
            else
              some ((1 : Int32), z63.2)
theorem tfX3_readPair (n0 : Nat) (rec : Nat → Int32 → Int32 → Mem → Option (Int32 × Mem)) (hO : OKc p (rmL (5 + dd + 1)) s m args meth c LX D cy ad cX3_readPair RX3 3 (5 + dd + 1) (some .boolean)) (hrec : recOK l LX D cy ad 5 dd rec) (x1 : Int32) (x2 : Int32) (M : Mem) : BL p l e (rmL (5 + dd + 1)) s m args below meth c LX D cy ad 3 (QI LX D cy ad) 0 [(0, .ref (ad 2)), (1, .int x1), (2, .int x2)] [] M (fX3_readPair n0 rec x1 x2 M) := by
  unfold fX3_readPair
  refine b_aload_n hO dX3_readPair_0 0 rfl rfl ?_
  refine b_get hO flX3_15 kLX_2 (v := .ref (ad 3)) rfl dX3_readPair_1 ?_
  refine b_callVV hO mdX8_advance mvX8_advance w848 (ci := 8) rfl rfl (by decide) kLX_3 (As := []) (st := []) (ctX8_advance n0 hO.2.2.2.2.2.2.1 _) (by omega) rfl rfl (Nat.le_of_ble_eq_true rfl) dX3_readPair_4 (fun z4 => ?_)
  refine b_aload_n hO dX3_readPair_7 0 rfl rfl ?_
  refine b_bipush hO dX3_readPair_8 ic_b_40 ?_
  refine b_iload_n hO dX3_readPair_10 1 rfl rfl ?_
  refine b_callVI hO mdX3_goIn mvX3_goIn w854 (ci := 3) rfl rfl (by decide) kLX_2 (As := [.int _, .int _]) (st := []) (ctX3_goIn n0 hO.2.2.2.2.2.2.1 _ _ _) (by omega) rfl rfl (Nat.le_of_ble_eq_true rfl) dX3_readPair_11 (fun z11 => ?_)
  refine b_if_eq hO dX3_readPair_14 (tgt := 73) (by decide) ?_ ?_
  · refine b_iconst hO dX3_readPair_73 ic_i_0 ?_
    exact b_zretc hO (Or.inl rfl) dX3_readPair_74
  · refine b_aload_n hO dX3_readPair_17 0 rfl rfl ?_
    refine b_iload_n hO dX3_readPair_18 1 rfl rfl ?_
    refine b_iconst hO dX3_readPair_19 ic_i_1 ?_
    refine b_iadd hO dX3_readPair_20 ?_
    refine b_callVI hO mdX3_readSum mvX3_readSum w828 (ci := 3) rfl rfl (by decide) kLX_2 (As := [.int _]) (st := []) (hrec.1 _ _) (by omega) rfl rfl (Nat.le_of_ble_eq_true rfl) dX3_readPair_21 (fun z21 => ?_)
    refine b_if_eq hO dX3_readPair_24 (tgt := 73) (by decide) ?_ ?_
    · refine b_iconst hO dX3_readPair_73 ic_i_0 ?_
      exact b_zretc hO (Or.inl rfl) dX3_readPair_74
    · refine b_aload_n hO dX3_readPair_27 0 rfl rfl ?_
      refine b_get hO flX3_15 kLX_2 (v := .ref (ad 3)) rfl dX3_readPair_28 ?_
      refine b_bipush hO dX3_readPair_31 ic_b_44 ?_
      refine b_callVI hO mdX8_skip mvX8_skip w859 (ci := 8) rfl rfl (by decide) kLX_3 (As := [.int _]) (st := []) (ctX8_skip n0 hO.2.2.2.2.2.2.1 _ _) (by omega) rfl rfl (Nat.le_of_ble_eq_true rfl) dX3_readPair_33 (fun z33 => ?_)
      refine b_if_eq hO dX3_readPair_36 (tgt := 73) (by decide) ?_ ?_
      · refine b_iconst hO dX3_readPair_73 ic_i_0 ?_
        exact b_zretc hO (Or.inl rfl) dX3_readPair_74
      · refine b_aload_n hO dX3_readPair_39 0 rfl rfl ?_
        refine b_iload_n hO dX3_readPair_40 1 rfl rfl ?_
        refine b_iconst hO dX3_readPair_41 ic_i_1 ?_
        refine b_iadd hO dX3_readPair_42 ?_
        refine b_callVI hO mdX3_readSum mvX3_readSum w828 (ci := 3) rfl rfl (by decide) kLX_2 (As := [.int _]) (st := []) (hrec.1 _ _) (by omega) rfl rfl (Nat.le_of_ble_eq_true rfl) dX3_readPair_43 (fun z43 => ?_)
        refine b_if_eq hO dX3_readPair_46 (tgt := 73) (by decide) ?_ ?_
        · refine b_iconst hO dX3_readPair_73 ic_i_0 ?_
          exact b_zretc hO (Or.inl rfl) dX3_readPair_74
        · refine b_aload_n hO dX3_readPair_49 0 rfl rfl ?_
          refine b_get hO flX3_15 kLX_2 (v := .ref (ad 3)) rfl dX3_readPair_50 ?_
          refine b_bipush hO dX3_readPair_53 ic_b_41 ?_
          refine b_callVI hO mdX8_skip mvX8_skip w859 (ci := 8) rfl rfl (by decide) kLX_3 (As := [.int _]) (st := []) (ctX8_skip n0 hO.2.2.2.2.2.2.1 _ _) (by omega) rfl rfl (Nat.le_of_ble_eq_true rfl) dX3_readPair_55 (fun z55 => ?_)
          refine b_if_eq hO dX3_readPair_58 (tgt := 73) (by decide) ?_ ?_
          · refine b_iconst hO dX3_readPair_73 ic_i_0 ?_
            exact b_zretc hO (Or.inl rfl) dX3_readPair_74
          · refine b_aload_n hO dX3_readPair_61 0 rfl rfl ?_
            refine b_iload_n hO dX3_readPair_62 2 rfl rfl ?_
            refine b_callVI hO mdX3_add mvX3_add w860 (ci := 3) rfl rfl (by decide) kLX_2 (As := [.int _]) (st := []) (ctX3_add n0 hO.2.2.2.2.2.2.1 _ _) (by omega) rfl rfl (Nat.le_of_ble_eq_true rfl) dX3_readPair_63 (fun z63 => ?_)
            refine b_if_eq hO dX3_readPair_66 (tgt := 73) (by decide) ?_ ?_
            · refine b_iconst hO dX3_readPair_73 ic_i_0 ?_
              exact b_zretc hO (Or.inl rfl) dX3_readPair_74
            · refine b_iconst hO dX3_readPair_69 ic_i_1 ?_
              refine b_goto hO dX3_readPair_70 (tgt := 74) (by decide) ?_
              exact b_zretc hO (Or.inr rfl) dX3_readPair_74
theorem ctX3_readPair (n0 : Nat) (rec : Nat → Int32 → Int32 → Mem → Option (Int32 × Mem)) (hI : Inj LX ad) (hrec : recOK l LX D cy ad 5 dd rec) (x1 : Int32) (x2 : Int32) (M : Mem) : CT l LX D cy ad yX3_readPair cX3_readPair 3 (some .boolean) (5 + dd + 1) (QI LX D cy ad) [.ref (ad 2), .int x1, .int x2] M (fX3_readPair n0 rec x1 x2 M) :=
  CT.mk LXok hI (by decide) (Nat.le_of_ble_eq_true rfl) (fun hO => tfX3_readPair n0 rec hO hrec x1 x2 M)
/-! X3_readChoice -/
def fX3_readChoice (n0 : Nat) (rec : Nat → Int32 → Int32 → Mem → Option (Int32 × Mem)) (x1 : Int32) (M : Mem) : Option (Int32 × Mem) :=
  (fX8_advance n0 M).bind fun z4 =>
  (fX3_goIn n0 (40 : Int32) x1 z4).bind fun z11 =>
  if z11.1 = 0 then
    some ((0 : Int32), z11.2)
  else
    (rec 5 (x1 + (1 : Int32)) (0 : Int32) z11.2).bind fun z21 =>
    if z21.1 = 0 then
      some ((0 : Int32), z21.2)
    else
      (fX8_skip n0 (44 : Int32) z21.2).bind fun z33 =>
      if z33.1 = 0 then
        some ((0 : Int32), z33.2)
      else
        (rec 0 (x1 + (1 : Int32)) (0 : Int32) z33.2).bind fun z43 =>
        if z43.1 = 0 then
          some ((0 : Int32), z43.2)
        else
          (fX8_skip n0 (44 : Int32) z43.2).bind fun z55 =>
          if z55.1 = 0 then
            some ((0 : Int32), z55.2)
          else
            (rec 0 (x1 + (1 : Int32)) (0 : Int32) z55.2).bind fun z65 =>
            if z65.1 = 0 then
              some ((0 : Int32), z65.2)
            else
              (fX8_skip n0 (41 : Int32) z65.2).bind fun z77 =>
              if z77.1 = 0 then
                some ((0 : Int32), z77.2)
              else
                (fX3_add n0 (-14 : Int32) z77.2).bind fun z86 =>
                if z86.1 = 0 then
                  some ((0 : Int32), z86.2)
                else
                  some ((1 : Int32), z86.2)
theorem tfX3_readChoice (n0 : Nat) (rec : Nat → Int32 → Int32 → Mem → Option (Int32 × Mem)) (hO : OKc p (rmL (5 + dd + 1)) s m args meth c LX D cy ad cX3_readChoice RX3 2 (5 + dd + 1) (some .boolean)) (hrec : recOK l LX D cy ad 5 dd rec) (x1 : Int32) (M : Mem) : BL p l e (rmL (5 + dd + 1)) s m args below meth c LX D cy ad 2 (QI LX D cy ad) 0 [(0, .ref (ad 2)), (1, .int x1)] [] M (fX3_readChoice n0 rec x1 M) := by
  unfold fX3_readChoice
  refine b_aload_n hO dX3_readChoice_0 0 rfl rfl ?_
  refine b_get hO flX3_15 kLX_2 (v := .ref (ad 3)) rfl dX3_readChoice_1 ?_
  refine b_callVV hO mdX8_advance mvX8_advance w848 (ci := 8) rfl rfl (by decide) kLX_3 (As := []) (st := []) (ctX8_advance n0 hO.2.2.2.2.2.2.1 _) (by omega) rfl rfl (Nat.le_of_ble_eq_true rfl) dX3_readChoice_4 (fun z4 => ?_)
  refine b_aload_n hO dX3_readChoice_7 0 rfl rfl ?_
  refine b_bipush hO dX3_readChoice_8 ic_b_40 ?_
  refine b_iload_n hO dX3_readChoice_10 1 rfl rfl ?_
  refine b_callVI hO mdX3_goIn mvX3_goIn w854 (ci := 3) rfl rfl (by decide) kLX_2 (As := [.int _, .int _]) (st := []) (ctX3_goIn n0 hO.2.2.2.2.2.2.1 _ _ _) (by omega) rfl rfl (Nat.le_of_ble_eq_true rfl) dX3_readChoice_11 (fun z11 => ?_)
  refine b_if_eq hO dX3_readChoice_14 (tgt := 96) (by decide) ?_ ?_
  · refine b_iconst hO dX3_readChoice_96 ic_i_0 ?_
    exact b_zretc hO (Or.inl rfl) dX3_readChoice_97
  · refine b_aload_n hO dX3_readChoice_17 0 rfl rfl ?_
    refine b_iload_n hO dX3_readChoice_18 1 rfl rfl ?_
    refine b_iconst hO dX3_readChoice_19 ic_i_1 ?_
    refine b_iadd hO dX3_readChoice_20 ?_
    refine b_callVI hO mdX3_readTest mvX3_readTest w868 (ci := 3) rfl rfl (by decide) kLX_2 (As := [.int _]) (st := []) (hrec.2.2.2.2.2.1 _ _) (by omega) rfl rfl (Nat.le_of_ble_eq_true rfl) dX3_readChoice_21 (fun z21 => ?_)
    refine b_if_eq hO dX3_readChoice_24 (tgt := 96) (by decide) ?_ ?_
    · refine b_iconst hO dX3_readChoice_96 ic_i_0 ?_
      exact b_zretc hO (Or.inl rfl) dX3_readChoice_97
    · refine b_aload_n hO dX3_readChoice_27 0 rfl rfl ?_
      refine b_get hO flX3_15 kLX_2 (v := .ref (ad 3)) rfl dX3_readChoice_28 ?_
      refine b_bipush hO dX3_readChoice_31 ic_b_44 ?_
      refine b_callVI hO mdX8_skip mvX8_skip w859 (ci := 8) rfl rfl (by decide) kLX_3 (As := [.int _]) (st := []) (ctX8_skip n0 hO.2.2.2.2.2.2.1 _ _) (by omega) rfl rfl (Nat.le_of_ble_eq_true rfl) dX3_readChoice_33 (fun z33 => ?_)
      refine b_if_eq hO dX3_readChoice_36 (tgt := 96) (by decide) ?_ ?_
      · refine b_iconst hO dX3_readChoice_96 ic_i_0 ?_
        exact b_zretc hO (Or.inl rfl) dX3_readChoice_97
      · refine b_aload_n hO dX3_readChoice_39 0 rfl rfl ?_
        refine b_iload_n hO dX3_readChoice_40 1 rfl rfl ?_
        refine b_iconst hO dX3_readChoice_41 ic_i_1 ?_
        refine b_iadd hO dX3_readChoice_42 ?_
        refine b_callVI hO mdX3_readSum mvX3_readSum w828 (ci := 3) rfl rfl (by decide) kLX_2 (As := [.int _]) (st := []) (hrec.1 _ _) (by omega) rfl rfl (Nat.le_of_ble_eq_true rfl) dX3_readChoice_43 (fun z43 => ?_)
        refine b_if_eq hO dX3_readChoice_46 (tgt := 96) (by decide) ?_ ?_
        · refine b_iconst hO dX3_readChoice_96 ic_i_0 ?_
          exact b_zretc hO (Or.inl rfl) dX3_readChoice_97
        · refine b_aload_n hO dX3_readChoice_49 0 rfl rfl ?_
          refine b_get hO flX3_15 kLX_2 (v := .ref (ad 3)) rfl dX3_readChoice_50 ?_
          refine b_bipush hO dX3_readChoice_53 ic_b_44 ?_
          refine b_callVI hO mdX8_skip mvX8_skip w859 (ci := 8) rfl rfl (by decide) kLX_3 (As := [.int _]) (st := []) (ctX8_skip n0 hO.2.2.2.2.2.2.1 _ _) (by omega) rfl rfl (Nat.le_of_ble_eq_true rfl) dX3_readChoice_55 (fun z55 => ?_)
          refine b_if_eq hO dX3_readChoice_58 (tgt := 96) (by decide) ?_ ?_
          · refine b_iconst hO dX3_readChoice_96 ic_i_0 ?_
            exact b_zretc hO (Or.inl rfl) dX3_readChoice_97
          · refine b_aload_n hO dX3_readChoice_61 0 rfl rfl ?_
            refine b_iload_n hO dX3_readChoice_62 1 rfl rfl ?_
            refine b_iconst hO dX3_readChoice_63 ic_i_1 ?_
            refine b_iadd hO dX3_readChoice_64 ?_
            refine b_callVI hO mdX3_readSum mvX3_readSum w828 (ci := 3) rfl rfl (by decide) kLX_2 (As := [.int _]) (st := []) (hrec.1 _ _) (by omega) rfl rfl (Nat.le_of_ble_eq_true rfl) dX3_readChoice_65 (fun z65 => ?_)
            refine b_if_eq hO dX3_readChoice_68 (tgt := 96) (by decide) ?_ ?_
            · refine b_iconst hO dX3_readChoice_96 ic_i_0 ?_
              exact b_zretc hO (Or.inl rfl) dX3_readChoice_97
            · refine b_aload_n hO dX3_readChoice_71 0 rfl rfl ?_
              refine b_get hO flX3_15 kLX_2 (v := .ref (ad 3)) rfl dX3_readChoice_72 ?_
              refine b_bipush hO dX3_readChoice_75 ic_b_41 ?_
              refine b_callVI hO mdX8_skip mvX8_skip w859 (ci := 8) rfl rfl (by decide) kLX_3 (As := [.int _]) (st := []) (ctX8_skip n0 hO.2.2.2.2.2.2.1 _ _) (by omega) rfl rfl (Nat.le_of_ble_eq_true rfl) dX3_readChoice_77 (fun z77 => ?_)
              refine b_if_eq hO dX3_readChoice_80 (tgt := 96) (by decide) ?_ ?_
              · refine b_iconst hO dX3_readChoice_96 ic_i_0 ?_
                exact b_zretc hO (Or.inl rfl) dX3_readChoice_97
              · refine b_aload_n hO dX3_readChoice_83 0 rfl rfl ?_
                refine b_bipush hO dX3_readChoice_84 ic_b_m14 ?_
                refine b_callVI hO mdX3_add mvX3_add w860 (ci := 3) rfl rfl (by decide) kLX_2 (As := [.int _]) (st := []) (ctX3_add n0 hO.2.2.2.2.2.2.1 _ _) (by omega) rfl rfl (Nat.le_of_ble_eq_true rfl) dX3_readChoice_86 (fun z86 => ?_)
                refine b_if_eq hO dX3_readChoice_89 (tgt := 96) (by decide) ?_ ?_
                · refine b_iconst hO dX3_readChoice_96 ic_i_0 ?_
                  exact b_zretc hO (Or.inl rfl) dX3_readChoice_97
                · refine b_iconst hO dX3_readChoice_92 ic_i_1 ?_
                  refine b_goto hO dX3_readChoice_93 (tgt := 97) (by decide) ?_
                  exact b_zretc hO (Or.inr rfl) dX3_readChoice_97
theorem ctX3_readChoice (n0 : Nat) (rec : Nat → Int32 → Int32 → Mem → Option (Int32 × Mem)) (hI : Inj LX ad) (hrec : recOK l LX D cy ad 5 dd rec) (x1 : Int32) (M : Mem) : CT l LX D cy ad yX3_readChoice cX3_readChoice 2 (some .boolean) (5 + dd + 1) (QI LX D cy ad) [.ref (ad 2), .int x1] M (fX3_readChoice n0 rec x1 M) :=
  CT.mk LXok hI (by decide) (Nat.le_of_ble_eq_true rfl) (fun hO => tfX3_readChoice n0 rec hO hrec x1 M)
/-! X3_readTest -/
def bX3_readTest_12 (n0 : Nat) (rec : Nat → Int32 → Int32 → Mem → Option (Int32 × Mem)) (k12 : Int32 → Int32 → Mem → Option (Int32 × Mem)) (x1 : Int32) (x2 : Int32) (M : Mem) : Option (Int32 × Mem) :=
  if (1600 : Int32) ≤ x2 then
    some ((1 : Int32), M)
  else
    if (gI M 386) = (279 : Int32) then
      (fX8_advance n0 M).bind fun z36 =>
      (rec 6 x1 (0 : Int32) z36).bind fun z41 =>
      if z41.1 = 0 then
        some ((0 : Int32), z41.2)
      else
        (fX0_add n0 (gR z41.2 257) (-19 : Int32) z41.2).bind fun z55 =>
        k12 x1 (x2 + (1 : Int32)) z55
    else
      some ((1 : Int32), M)
def fX3_readTest_12 (n0 : Nat) (rec : Nat → Int32 → Int32 → Mem → Option (Int32 × Mem)) : Int32 → Int32 → Mem → Option (Int32 × Mem) := loopN (bX3_readTest_12 n0 rec) (fun _ _ _ => none) n0
def fX3_readTest (n0 : Nat) (rec : Nat → Int32 → Int32 → Mem → Option (Int32 × Mem)) (x1 : Int32) (M : Mem) : Option (Int32 × Mem) :=
  (rec 6 x1 (0 : Int32) M).bind fun z2 =>
  if z2.1 = 0 then
    some ((0 : Int32), z2.2)
  else
    fX3_readTest_12 n0 rec x1 (0 : Int32) z2.2
theorem tbX3_readTest_12 (n0 : Nat) (rec : Nat → Int32 → Int32 → Mem → Option (Int32 × Mem)) (hO : OKc p (rmL (5 + dd + 1)) s m args meth c LX D cy ad cX3_readTest RX3 3 (5 + dd + 1) (some .boolean)) (hrec : recOK l LX D cy ad 5 dd rec) (k12 : Int32 → Int32 → Mem → Option (Int32 × Mem)) (hk12 : ∀ (x1 : Int32) (x2 : Int32) (M : Mem), BL p l e (rmL (5 + dd + 1)) s m args below meth c LX D cy ad 3 (QI LX D cy ad) 12 [(0, .ref (ad 2)), (1, .int x1), (2, .int x2)] [] M (k12 x1 x2 M)) (x1 : Int32) (x2 : Int32) (M : Mem) : BL p l e (rmL (5 + dd + 1)) s m args below meth c LX D cy ad 3 (QI LX D cy ad) 12 [(0, .ref (ad 2)), (1, .int x1), (2, .int x2)] [] M (bX3_readTest_12 n0 rec k12 x1 x2 M) := by
  unfold bX3_readTest_12
  refine b_iload_n hO dX3_readTest_12 2 rfl rfl ?_
  refine b_sipush hO dX3_readTest_13 ic_s_1600 ?_
  refine b_icmp_ge hO dX3_readTest_16 (tgt := 64) (by decide) ?_ ?_
  · refine b_iconst hO dX3_readTest_64 ic_i_1 ?_
    exact b_zretc hO (Or.inr rfl) dX3_readTest_65
  · refine b_aload_n hO dX3_readTest_19 0 rfl rfl ?_
    refine b_get hO flX3_15 kLX_2 (v := .ref (ad 3)) rfl dX3_readTest_20 ?_
    refine b_get hO flX3_30 kLX_3 (v := .int (gI _ 386)) rfl dX3_readTest_23 ?_
    refine b_sipush hO dX3_readTest_26 ic_s_279 ?_
    refine b_icmp_ne hO dX3_readTest_29 (tgt := 64) (by decide) ?_ ?_
    · refine b_iconst hO dX3_readTest_64 ic_i_1 ?_
      exact b_zretc hO (Or.inr rfl) dX3_readTest_65
    · refine b_aload_n hO dX3_readTest_32 0 rfl rfl ?_
      refine b_get hO flX3_15 kLX_2 (v := .ref (ad 3)) rfl dX3_readTest_33 ?_
      refine b_callVV hO mdX8_advance mvX8_advance w848 (ci := 8) rfl rfl (by decide) kLX_3 (As := []) (st := []) (ctX8_advance n0 hO.2.2.2.2.2.2.1 _) (by omega) rfl rfl (Nat.le_of_ble_eq_true rfl) dX3_readTest_36 (fun z36 => ?_)
      refine b_aload_n hO dX3_readTest_39 0 rfl rfl ?_
      refine b_iload_n hO dX3_readTest_40 1 rfl rfl ?_
      refine b_callVI hO mdX3_readBoth mvX3_readBoth w872 (ci := 3) rfl rfl (by decide) kLX_2 (As := [.int _]) (st := []) (hrec.2.2.2.2.2.2.1 _ _) (by omega) rfl rfl (Nat.le_of_ble_eq_true rfl) dX3_readTest_41 (fun z41 => ?_)
      refine b_if_ne hO dX3_readTest_44 (tgt := 49) (by decide) ?_ ?_
      · refine b_aload_n hO dX3_readTest_49 0 rfl rfl ?_
        refine b_getR hO flX3_19 kLX_2 (id := 257) rfl rfl (rk := 0) rfl (by decide) dX3_readTest_50 (fun hg1 => ?_)
        refine b_bipush hO dX3_readTest_53 ic_b_m19 ?_
        refine b_callVV hO mdX0_add mvX0_add w844 (ci := 0) rfl rfl (by decide) hg1 (As := [.int _]) (st := []) (ctX0_add n0 _ hg1 hO.2.2.2.2.2.2.1 _ _) (by omega) rfl rfl (Nat.le_of_ble_eq_true rfl) dX3_readTest_55 (fun z55 => ?_)
        refine b_iinc hO dX3_readTest_58 2 rfl ic_i_1 (by decide) (lv' := [(2, .int _), (0, .ref _), (1, .int _)]) rfl ?_
        refine b_goto hO dX3_readTest_61 (tgt := 12) (by decide) ?_
        refine b_sub [1, 2, 0] rfl ?_
        exact hk12 _ _ _
      · refine b_iconst hO dX3_readTest_47 ic_i_0 ?_
        exact b_zretc hO (Or.inl rfl) dX3_readTest_48
theorem lX3_readTest_12 (n0 : Nat) (rec : Nat → Int32 → Int32 → Mem → Option (Int32 × Mem)) (hO : OKc p (rmL (5 + dd + 1)) s m args meth c LX D cy ad cX3_readTest RX3 3 (5 + dd + 1) (some .boolean)) (hrec : recOK l LX D cy ad 5 dd rec) : ∀ (w : Nat) (x1 : Int32) (x2 : Int32) (M : Mem), BL p l e (rmL (5 + dd + 1)) s m args below meth c LX D cy ad 3 (QI LX D cy ad) 12 [(0, .ref (ad 2)), (1, .int x1), (2, .int x2)] [] M (loopN (bX3_readTest_12 n0 rec) (fun _ _ _ => none) w x1 x2 M) := by
  intro w
  induction w with
  | zero =>
    intros
    exact b_none
  | succ w ih =>
    intro x1 x2 M
    exact tbX3_readTest_12 n0 rec hO hrec _ ih x1 x2 M
theorem tfX3_readTest_12 (n0 : Nat) (rec : Nat → Int32 → Int32 → Mem → Option (Int32 × Mem)) (hO : OKc p (rmL (5 + dd + 1)) s m args meth c LX D cy ad cX3_readTest RX3 3 (5 + dd + 1) (some .boolean)) (hrec : recOK l LX D cy ad 5 dd rec) (x1 : Int32) (x2 : Int32) (M : Mem) : BL p l e (rmL (5 + dd + 1)) s m args below meth c LX D cy ad 3 (QI LX D cy ad) 12 [(0, .ref (ad 2)), (1, .int x1), (2, .int x2)] [] M (fX3_readTest_12 n0 rec x1 x2 M) := lX3_readTest_12 n0 rec hO hrec n0 x1 x2 M
theorem tfX3_readTest (n0 : Nat) (rec : Nat → Int32 → Int32 → Mem → Option (Int32 × Mem)) (hO : OKc p (rmL (5 + dd + 1)) s m args meth c LX D cy ad cX3_readTest RX3 3 (5 + dd + 1) (some .boolean)) (hrec : recOK l LX D cy ad 5 dd rec) (x1 : Int32) (M : Mem) : BL p l e (rmL (5 + dd + 1)) s m args below meth c LX D cy ad 3 (QI LX D cy ad) 0 [(0, .ref (ad 2)), (1, .int x1)] [] M (fX3_readTest n0 rec x1 M) := by
  unfold fX3_readTest
  refine b_aload_n hO dX3_readTest_0 0 rfl rfl ?_
  refine b_iload_n hO dX3_readTest_1 1 rfl rfl ?_
  refine b_callVI hO mdX3_readBoth mvX3_readBoth w872 (ci := 3) rfl rfl (by decide) kLX_2 (As := [.int _]) (st := []) (hrec.2.2.2.2.2.2.1 _ _) (by omega) rfl rfl (Nat.le_of_ble_eq_true rfl) dX3_readTest_2 (fun z2 => ?_)
  refine b_if_ne hO dX3_readTest_5 (tgt := 10) (by decide) ?_ ?_
  · refine b_iconst hO dX3_readTest_10 ic_i_0 ?_
    refine b_istore_n hO dX3_readTest_11 rfl (by decide) (lv' := [(2, .int _), (0, .ref _), (1, .int _)]) rfl ?_
    refine b_sub [1, 2, 0] rfl ?_
    exact tfX3_readTest_12 n0 rec hO hrec _ _ _
  · refine b_iconst hO dX3_readTest_8 ic_i_0 ?_
    exact b_zretc hO (Or.inl rfl) dX3_readTest_9
theorem ctX3_readTest (n0 : Nat) (rec : Nat → Int32 → Int32 → Mem → Option (Int32 × Mem)) (hI : Inj LX ad) (hrec : recOK l LX D cy ad 5 dd rec) (x1 : Int32) (M : Mem) : CT l LX D cy ad yX3_readTest cX3_readTest 3 (some .boolean) (5 + dd + 1) (QI LX D cy ad) [.ref (ad 2), .int x1] M (fX3_readTest n0 rec x1 M) :=
  CT.mk LXok hI (by decide) (Nat.le_of_ble_eq_true rfl) (fun hO => tfX3_readTest n0 rec hO hrec x1 M)
/-! X3_readBoth -/
def bX3_readBoth_12 (n0 : Nat) (rec : Nat → Int32 → Int32 → Mem → Option (Int32 × Mem)) (k12 : Int32 → Int32 → Mem → Option (Int32 × Mem)) (x1 : Int32) (x2 : Int32) (M : Mem) : Option (Int32 × Mem) :=
  if (1600 : Int32) ≤ x2 then
    some ((1 : Int32), M)
  else
    if (gI M 386) = (280 : Int32) then
      (fX8_advance n0 M).bind fun z36 =>
      (rec 7 x1 (0 : Int32) z36).bind fun z41 =>
      if z41.1 = 0 then
        some ((0 : Int32), z41.2)
      else
        (fX0_add n0 (gR z41.2 257) (-18 : Int32) z41.2).bind fun z55 =>
        k12 x1 (x2 + (1 : Int32)) z55
    else
      some ((1 : Int32), M)
def fX3_readBoth_12 (n0 : Nat) (rec : Nat → Int32 → Int32 → Mem → Option (Int32 × Mem)) : Int32 → Int32 → Mem → Option (Int32 × Mem) := loopN (bX3_readBoth_12 n0 rec) (fun _ _ _ => none) n0
def fX3_readBoth (n0 : Nat) (rec : Nat → Int32 → Int32 → Mem → Option (Int32 × Mem)) (x1 : Int32) (M : Mem) : Option (Int32 × Mem) :=
  (rec 7 x1 (0 : Int32) M).bind fun z2 =>
  if z2.1 = 0 then
    some ((0 : Int32), z2.2)
  else
    fX3_readBoth_12 n0 rec x1 (0 : Int32) z2.2
theorem tbX3_readBoth_12 (n0 : Nat) (rec : Nat → Int32 → Int32 → Mem → Option (Int32 × Mem)) (hO : OKc p (rmL (5 + dd + 1)) s m args meth c LX D cy ad cX3_readBoth RX3 3 (5 + dd + 1) (some .boolean)) (hrec : recOK l LX D cy ad 5 dd rec) (k12 : Int32 → Int32 → Mem → Option (Int32 × Mem)) (hk12 : ∀ (x1 : Int32) (x2 : Int32) (M : Mem), BL p l e (rmL (5 + dd + 1)) s m args below meth c LX D cy ad 3 (QI LX D cy ad) 12 [(0, .ref (ad 2)), (1, .int x1), (2, .int x2)] [] M (k12 x1 x2 M)) (x1 : Int32) (x2 : Int32) (M : Mem) : BL p l e (rmL (5 + dd + 1)) s m args below meth c LX D cy ad 3 (QI LX D cy ad) 12 [(0, .ref (ad 2)), (1, .int x1), (2, .int x2)] [] M (bX3_readBoth_12 n0 rec k12 x1 x2 M) := by
  unfold bX3_readBoth_12
  refine b_iload_n hO dX3_readBoth_12 2 rfl rfl ?_
  refine b_sipush hO dX3_readBoth_13 ic_s_1600 ?_
  refine b_icmp_ge hO dX3_readBoth_16 (tgt := 64) (by decide) ?_ ?_
  · refine b_iconst hO dX3_readBoth_64 ic_i_1 ?_
    exact b_zretc hO (Or.inr rfl) dX3_readBoth_65
  · refine b_aload_n hO dX3_readBoth_19 0 rfl rfl ?_
    refine b_get hO flX3_15 kLX_2 (v := .ref (ad 3)) rfl dX3_readBoth_20 ?_
    refine b_get hO flX3_30 kLX_3 (v := .int (gI _ 386)) rfl dX3_readBoth_23 ?_
    refine b_sipush hO dX3_readBoth_26 ic_s_280 ?_
    refine b_icmp_ne hO dX3_readBoth_29 (tgt := 64) (by decide) ?_ ?_
    · refine b_iconst hO dX3_readBoth_64 ic_i_1 ?_
      exact b_zretc hO (Or.inr rfl) dX3_readBoth_65
    · refine b_aload_n hO dX3_readBoth_32 0 rfl rfl ?_
      refine b_get hO flX3_15 kLX_2 (v := .ref (ad 3)) rfl dX3_readBoth_33 ?_
      refine b_callVV hO mdX8_advance mvX8_advance w848 (ci := 8) rfl rfl (by decide) kLX_3 (As := []) (st := []) (ctX8_advance n0 hO.2.2.2.2.2.2.1 _) (by omega) rfl rfl (Nat.le_of_ble_eq_true rfl) dX3_readBoth_36 (fun z36 => ?_)
      refine b_aload_n hO dX3_readBoth_39 0 rfl rfl ?_
      refine b_iload_n hO dX3_readBoth_40 1 rfl rfl ?_
      refine b_callVI hO mdX3_readFact mvX3_readFact w876 (ci := 3) rfl rfl (by decide) kLX_2 (As := [.int _]) (st := []) (hrec.2.2.2.2.2.2.2.1 _ _) (by omega) rfl rfl (Nat.le_of_ble_eq_true rfl) dX3_readBoth_41 (fun z41 => ?_)
      refine b_if_ne hO dX3_readBoth_44 (tgt := 49) (by decide) ?_ ?_
      · refine b_aload_n hO dX3_readBoth_49 0 rfl rfl ?_
        refine b_getR hO flX3_19 kLX_2 (id := 257) rfl rfl (rk := 0) rfl (by decide) dX3_readBoth_50 (fun hg1 => ?_)
        refine b_bipush hO dX3_readBoth_53 ic_b_m18 ?_
        refine b_callVV hO mdX0_add mvX0_add w844 (ci := 0) rfl rfl (by decide) hg1 (As := [.int _]) (st := []) (ctX0_add n0 _ hg1 hO.2.2.2.2.2.2.1 _ _) (by omega) rfl rfl (Nat.le_of_ble_eq_true rfl) dX3_readBoth_55 (fun z55 => ?_)
        refine b_iinc hO dX3_readBoth_58 2 rfl ic_i_1 (by decide) (lv' := [(2, .int _), (0, .ref _), (1, .int _)]) rfl ?_
        refine b_goto hO dX3_readBoth_61 (tgt := 12) (by decide) ?_
        refine b_sub [1, 2, 0] rfl ?_
        exact hk12 _ _ _
      · refine b_iconst hO dX3_readBoth_47 ic_i_0 ?_
        exact b_zretc hO (Or.inl rfl) dX3_readBoth_48
theorem lX3_readBoth_12 (n0 : Nat) (rec : Nat → Int32 → Int32 → Mem → Option (Int32 × Mem)) (hO : OKc p (rmL (5 + dd + 1)) s m args meth c LX D cy ad cX3_readBoth RX3 3 (5 + dd + 1) (some .boolean)) (hrec : recOK l LX D cy ad 5 dd rec) : ∀ (w : Nat) (x1 : Int32) (x2 : Int32) (M : Mem), BL p l e (rmL (5 + dd + 1)) s m args below meth c LX D cy ad 3 (QI LX D cy ad) 12 [(0, .ref (ad 2)), (1, .int x1), (2, .int x2)] [] M (loopN (bX3_readBoth_12 n0 rec) (fun _ _ _ => none) w x1 x2 M) := by
  intro w
  induction w with
  | zero =>
    intros
    exact b_none
  | succ w ih =>
    intro x1 x2 M
    exact tbX3_readBoth_12 n0 rec hO hrec _ ih x1 x2 M
theorem tfX3_readBoth_12 (n0 : Nat) (rec : Nat → Int32 → Int32 → Mem → Option (Int32 × Mem)) (hO : OKc p (rmL (5 + dd + 1)) s m args meth c LX D cy ad cX3_readBoth RX3 3 (5 + dd + 1) (some .boolean)) (hrec : recOK l LX D cy ad 5 dd rec) (x1 : Int32) (x2 : Int32) (M : Mem) : BL p l e (rmL (5 + dd + 1)) s m args below meth c LX D cy ad 3 (QI LX D cy ad) 12 [(0, .ref (ad 2)), (1, .int x1), (2, .int x2)] [] M (fX3_readBoth_12 n0 rec x1 x2 M) := lX3_readBoth_12 n0 rec hO hrec n0 x1 x2 M
theorem tfX3_readBoth (n0 : Nat) (rec : Nat → Int32 → Int32 → Mem → Option (Int32 × Mem)) (hO : OKc p (rmL (5 + dd + 1)) s m args meth c LX D cy ad cX3_readBoth RX3 3 (5 + dd + 1) (some .boolean)) (hrec : recOK l LX D cy ad 5 dd rec) (x1 : Int32) (M : Mem) : BL p l e (rmL (5 + dd + 1)) s m args below meth c LX D cy ad 3 (QI LX D cy ad) 0 [(0, .ref (ad 2)), (1, .int x1)] [] M (fX3_readBoth n0 rec x1 M) := by
  unfold fX3_readBoth
  refine b_aload_n hO dX3_readBoth_0 0 rfl rfl ?_
  refine b_iload_n hO dX3_readBoth_1 1 rfl rfl ?_
  refine b_callVI hO mdX3_readFact mvX3_readFact w876 (ci := 3) rfl rfl (by decide) kLX_2 (As := [.int _]) (st := []) (hrec.2.2.2.2.2.2.2.1 _ _) (by omega) rfl rfl (Nat.le_of_ble_eq_true rfl) dX3_readBoth_2 (fun z2 => ?_)
  refine b_if_ne hO dX3_readBoth_5 (tgt := 10) (by decide) ?_ ?_
  · refine b_iconst hO dX3_readBoth_10 ic_i_0 ?_
    refine b_istore_n hO dX3_readBoth_11 rfl (by decide) (lv' := [(2, .int _), (0, .ref _), (1, .int _)]) rfl ?_
    refine b_sub [1, 2, 0] rfl ?_
    exact tfX3_readBoth_12 n0 rec hO hrec _ _ _
  · refine b_iconst hO dX3_readBoth_8 ic_i_0 ?_
    exact b_zretc hO (Or.inl rfl) dX3_readBoth_9
theorem ctX3_readBoth (n0 : Nat) (rec : Nat → Int32 → Int32 → Mem → Option (Int32 × Mem)) (hI : Inj LX ad) (hrec : recOK l LX D cy ad 5 dd rec) (x1 : Int32) (M : Mem) : CT l LX D cy ad yX3_readBoth cX3_readBoth 3 (some .boolean) (5 + dd + 1) (QI LX D cy ad) [.ref (ad 2), .int x1] M (fX3_readBoth n0 rec x1 M) :=
  CT.mk LXok hI (by decide) (Nat.le_of_ble_eq_true rfl) (fun hO => tfX3_readBoth n0 rec hO hrec x1 M)
/-! X3_readFact -/
def fX3_readFact (n0 : Nat) (rec : Nat → Int32 → Int32 → Mem → Option (Int32 × Mem)) (x1 : Int32) (M : Mem) : Option (Int32 × Mem) :=
  if (gI M 386) = 91 then
    (fX3_goIn n0 (91 : Int32) x1 M).bind fun z88 =>
    if z88.1 = 0 then
      some ((0 : Int32), z88.2)
    else
      (rec 5 (x1 + (1 : Int32)) (0 : Int32) z88.2).bind fun z98 =>
      if z98.1 = 0 then
        some ((0 : Int32), z98.2)
      else
        (fX8_skip n0 (93 : Int32) z98.2).bind fun z110 =>
        if z110.1 = 0 then
          some ((0 : Int32), z110.2)
        else
          some ((1 : Int32), z110.2)
  else
  if (gI M 386) = 281 then
    (fX3_goIn n0 (281 : Int32) x1 M).bind fun z45 =>
    if z45.1 = 0 then
      some ((0 : Int32), z45.2)
    else
      (rec 7 (x1 + (1 : Int32)) (0 : Int32) z45.2).bind fun z55 =>
      if z55.1 = 0 then
        some ((0 : Int32), z55.2)
      else
        (fX3_add n0 (0 : Int32) z55.2).bind fun z63 =>
        if z63.1 = 0 then
          some ((0 : Int32), z63.2)
        else
          (fX3_add n0 (-17 : Int32) z63.2).bind fun z72 =>
          if z72.1 = 0 then
            some ((0 : Int32), z72.2)
          else
            some ((1 : Int32), z72.2)
  else
  if (gI M 386) = 282 then
    (fX3_addAndAdvance n0 (1 : Int32) M).bind fun z124 =>
    if z124.1 = 0 ∨ z124.1 = 1 then some (z124.1, z124.2) else none
  else
  (rec 8 x1 (0 : Int32) M).bind fun z130 =>
  if z130.1 = 0 ∨ z130.1 = 1 then some (z130.1, z130.2) else none
theorem tfX3_readFact (n0 : Nat) (rec : Nat → Int32 → Int32 → Mem → Option (Int32 × Mem)) (hO : OKc p (rmL (5 + dd + 1)) s m args meth c LX D cy ad cX3_readFact RX3 2 (5 + dd + 1) (some .boolean)) (hrec : recOK l LX D cy ad 5 dd rec) (x1 : Int32) (M : Mem) : BL p l e (rmL (5 + dd + 1)) s m args below meth c LX D cy ad 2 (QI LX D cy ad) 0 [(0, .ref (ad 2)), (1, .int x1)] [] M (fX3_readFact n0 rec x1 M) := by
  unfold fX3_readFact
  refine b_aload_n hO dX3_readFact_0 0 rfl rfl ?_
  refine b_get hO flX3_15 kLX_2 (v := .ref (ad 3)) rfl dX3_readFact_1 ?_
  refine b_get hO flX3_30 kLX_3 (v := .int (gI _ 386)) rfl dX3_readFact_4 ?_
  refine b_lookIn hO dX3_readFact_7 (v := 91) (z := 91) (tgt := 84) (by decide) (by decide) rfl (by decide) ?_ (fun hn0 => ?_)
  · refine b_aload_n hO dX3_readFact_84 0 rfl rfl ?_
    refine b_bipush hO dX3_readFact_85 ic_b_91 ?_
    refine b_iload_n hO dX3_readFact_87 1 rfl rfl ?_
    refine b_callVI hO mdX3_goIn mvX3_goIn w854 (ci := 3) rfl rfl (by decide) kLX_2 (As := [.int _, .int _]) (st := []) (ctX3_goIn n0 hO.2.2.2.2.2.2.1 _ _ _) (by omega) rfl rfl (Nat.le_of_ble_eq_true rfl) dX3_readFact_88 (fun z88 => ?_)
    refine b_if_eq hO dX3_readFact_91 (tgt := 120) (by decide) ?_ ?_
    · refine b_iconst hO dX3_readFact_120 ic_i_0 ?_
      exact b_zretc hO (Or.inl rfl) dX3_readFact_121
    · refine b_aload_n hO dX3_readFact_94 0 rfl rfl ?_
      refine b_iload_n hO dX3_readFact_95 1 rfl rfl ?_
      refine b_iconst hO dX3_readFact_96 ic_i_1 ?_
      refine b_iadd hO dX3_readFact_97 ?_
      refine b_callVI hO mdX3_readTest mvX3_readTest w868 (ci := 3) rfl rfl (by decide) kLX_2 (As := [.int _]) (st := []) (hrec.2.2.2.2.2.1 _ _) (by omega) rfl rfl (Nat.le_of_ble_eq_true rfl) dX3_readFact_98 (fun z98 => ?_)
      refine b_if_eq hO dX3_readFact_101 (tgt := 120) (by decide) ?_ ?_
      · refine b_iconst hO dX3_readFact_120 ic_i_0 ?_
        exact b_zretc hO (Or.inl rfl) dX3_readFact_121
      · refine b_aload_n hO dX3_readFact_104 0 rfl rfl ?_
        refine b_get hO flX3_15 kLX_2 (v := .ref (ad 3)) rfl dX3_readFact_105 ?_
        refine b_bipush hO dX3_readFact_108 ic_b_93 ?_
        refine b_callVI hO mdX8_skip mvX8_skip w859 (ci := 8) rfl rfl (by decide) kLX_3 (As := [.int _]) (st := []) (ctX8_skip n0 hO.2.2.2.2.2.2.1 _ _) (by omega) rfl rfl (Nat.le_of_ble_eq_true rfl) dX3_readFact_110 (fun z110 => ?_)
        refine b_if_eq hO dX3_readFact_113 (tgt := 120) (by decide) ?_ ?_
        · refine b_iconst hO dX3_readFact_120 ic_i_0 ?_
          exact b_zretc hO (Or.inl rfl) dX3_readFact_121
        · refine b_iconst hO dX3_readFact_116 ic_i_1 ?_
          refine b_goto hO dX3_readFact_117 (tgt := 121) (by decide) ?_
          exact b_zretc hO (Or.inr rfl) dX3_readFact_121
  refine b_lookIn hO dX3_readFact_7 (v := 281) (z := 281) (tgt := 40) (by decide) (by decide) rfl (by decide) ?_ (fun hn1 => ?_)
  · refine b_aload_n hO dX3_readFact_40 0 rfl rfl ?_
    refine b_sipush hO dX3_readFact_41 ic_s_281 ?_
    refine b_iload_n hO dX3_readFact_44 1 rfl rfl ?_
    refine b_callVI hO mdX3_goIn mvX3_goIn w854 (ci := 3) rfl rfl (by decide) kLX_2 (As := [.int _, .int _]) (st := []) (ctX3_goIn n0 hO.2.2.2.2.2.2.1 _ _ _) (by omega) rfl rfl (Nat.le_of_ble_eq_true rfl) dX3_readFact_45 (fun z45 => ?_)
    refine b_if_eq hO dX3_readFact_48 (tgt := 82) (by decide) ?_ ?_
    · refine b_iconst hO dX3_readFact_82 ic_i_0 ?_
      exact b_zretc hO (Or.inl rfl) dX3_readFact_83
    · refine b_aload_n hO dX3_readFact_51 0 rfl rfl ?_
      refine b_iload_n hO dX3_readFact_52 1 rfl rfl ?_
      refine b_iconst hO dX3_readFact_53 ic_i_1 ?_
      refine b_iadd hO dX3_readFact_54 ?_
      refine b_callVI hO mdX3_readFact mvX3_readFact w876 (ci := 3) rfl rfl (by decide) kLX_2 (As := [.int _]) (st := []) (hrec.2.2.2.2.2.2.2.1 _ _) (by omega) rfl rfl (Nat.le_of_ble_eq_true rfl) dX3_readFact_55 (fun z55 => ?_)
      refine b_if_eq hO dX3_readFact_58 (tgt := 82) (by decide) ?_ ?_
      · refine b_iconst hO dX3_readFact_82 ic_i_0 ?_
        exact b_zretc hO (Or.inl rfl) dX3_readFact_83
      · refine b_aload_n hO dX3_readFact_61 0 rfl rfl ?_
        refine b_iconst hO dX3_readFact_62 ic_i_0 ?_
        refine b_callVI hO mdX3_add mvX3_add w860 (ci := 3) rfl rfl (by decide) kLX_2 (As := [.int _]) (st := []) (ctX3_add n0 hO.2.2.2.2.2.2.1 _ _) (by omega) rfl rfl (Nat.le_of_ble_eq_true rfl) dX3_readFact_63 (fun z63 => ?_)
        refine b_if_eq hO dX3_readFact_66 (tgt := 82) (by decide) ?_ ?_
        · refine b_iconst hO dX3_readFact_82 ic_i_0 ?_
          exact b_zretc hO (Or.inl rfl) dX3_readFact_83
        · refine b_aload_n hO dX3_readFact_69 0 rfl rfl ?_
          refine b_bipush hO dX3_readFact_70 ic_b_m17 ?_
          refine b_callVI hO mdX3_add mvX3_add w860 (ci := 3) rfl rfl (by decide) kLX_2 (As := [.int _]) (st := []) (ctX3_add n0 hO.2.2.2.2.2.2.1 _ _) (by omega) rfl rfl (Nat.le_of_ble_eq_true rfl) dX3_readFact_72 (fun z72 => ?_)
          refine b_if_eq hO dX3_readFact_75 (tgt := 82) (by decide) ?_ ?_
          · refine b_iconst hO dX3_readFact_82 ic_i_0 ?_
            exact b_zretc hO (Or.inl rfl) dX3_readFact_83
          · refine b_iconst hO dX3_readFact_78 ic_i_1 ?_
            refine b_goto hO dX3_readFact_79 (tgt := 83) (by decide) ?_
            exact b_zretc hO (Or.inr rfl) dX3_readFact_83
  refine b_lookIn hO dX3_readFact_7 (v := 282) (z := 282) (tgt := 122) (by decide) (by decide) rfl (by decide) ?_ (fun hn2 => ?_)
  · refine b_aload_n hO dX3_readFact_122 0 rfl rfl ?_
    refine b_iconst hO dX3_readFact_123 ic_i_1 ?_
    refine b_callVI hO mdX3_addAndAdvance mvX3_addAndAdvance w840 (ci := 3) rfl rfl (by decide) kLX_2 (As := [.int _]) (st := []) (ctX3_addAndAdvance n0 hO.2.2.2.2.2.2.1 _ _) (by omega) rfl rfl (Nat.le_of_ble_eq_true rfl) dX3_readFact_124 (fun z124 => ?_)
    exact b_zret hO dX3_readFact_127
  refine b_lookOut hO dX3_readFact_7 (tgt := 128) (by decide) (by rw [lv_osw hn0 (by decide)]; rw [lv_osw hn1 (by decide)]; rw [lv_osw hn2 (by decide)]; rfl) (by decide) ?_
  refine b_aload_n hO dX3_readFact_128 0 rfl rfl ?_
  refine b_iload_n hO dX3_readFact_129 1 rfl rfl ?_
  refine b_callVI hO mdX3_readComparison mvX3_readComparison w880 (ci := 3) rfl rfl (by decide) kLX_2 (As := [.int _]) (st := []) (hrec.2.2.2.2.2.2.2.2 _ _) (by omega) rfl rfl (Nat.le_of_ble_eq_true rfl) dX3_readFact_130 (fun z130 => ?_)
  exact b_zret hO dX3_readFact_133
theorem ctX3_readFact (n0 : Nat) (rec : Nat → Int32 → Int32 → Mem → Option (Int32 × Mem)) (hI : Inj LX ad) (hrec : recOK l LX D cy ad 5 dd rec) (x1 : Int32) (M : Mem) : CT l LX D cy ad yX3_readFact cX3_readFact 2 (some .boolean) (5 + dd + 1) (QI LX D cy ad) [.ref (ad 2), .int x1] M (fX3_readFact n0 rec x1 M) :=
  CT.mk LXok hI (by decide) (Nat.le_of_ble_eq_true rfl) (fun hO => tfX3_readFact n0 rec hO hrec x1 M)
/-! X3_readComparison -/
def fX3_readComparison (n0 : Nat) (rec : Nat → Int32 → Int32 → Mem → Option (Int32 × Mem)) (x1 : Int32) (M : Mem) : Option (Int32 × Mem) :=
  (rec 0 x1 (0 : Int32) M).bind fun z2 =>
  if z2.1 = 0 then
    some ((0 : Int32), z2.2)
  else
    (fX3_comparisonStep n0 z2.2).bind fun z11 =>
    if z11.1 = 0 then
      (fX8_failHere n0 z11.2).bind fun z23 =>
      if z23.1 = 0 ∨ z23.1 = 1 then some (z23.1, z23.2) else none
    else
      (fX8_advance n0 z11.2).bind fun z31 =>
      (rec 0 x1 (0 : Int32) z31).bind fun z36 =>
      if z36.1 = 0 then
        some ((0 : Int32), z36.2)
      else
        (fX3_add n0 z11.1 z36.2).bind fun z44 =>
        if z44.1 = 0 then
          some ((0 : Int32), z44.2)
        else
          some ((1 : Int32), z44.2)
theorem tfX3_readComparison (n0 : Nat) (rec : Nat → Int32 → Int32 → Mem → Option (Int32 × Mem)) (hO : OKc p (rmL (5 + dd + 1)) s m args meth c LX D cy ad cX3_readComparison RX3 3 (5 + dd + 1) (some .boolean)) (hrec : recOK l LX D cy ad 5 dd rec) (x1 : Int32) (M : Mem) : BL p l e (rmL (5 + dd + 1)) s m args below meth c LX D cy ad 3 (QI LX D cy ad) 0 [(0, .ref (ad 2)), (1, .int x1)] [] M (fX3_readComparison n0 rec x1 M) := by
  unfold fX3_readComparison
  refine b_aload_n hO dX3_readComparison_0 0 rfl rfl ?_
  refine b_iload_n hO dX3_readComparison_1 1 rfl rfl ?_
  refine b_callVI hO mdX3_readSum mvX3_readSum w828 (ci := 3) rfl rfl (by decide) kLX_2 (As := [.int _]) (st := []) (hrec.1 _ _) (by omega) rfl rfl (Nat.le_of_ble_eq_true rfl) dX3_readComparison_2 (fun z2 => ?_)
  refine b_if_ne hO dX3_readComparison_5 (tgt := 10) (by decide) ?_ ?_
  · refine b_aload_n hO dX3_readComparison_10 0 rfl rfl ?_
    refine b_callVI hO mdX3_comparisonStep mvX3_comparisonStep w884 (ci := 3) rfl rfl (by decide) kLX_2 (As := []) (st := []) (ctX3_comparisonStep n0 hO.2.2.2.2.2.2.1 _) (by omega) rfl rfl (Nat.le_of_ble_eq_true rfl) dX3_readComparison_11 (fun z11 => ?_)
    refine b_istore_n hO dX3_readComparison_14 rfl (by decide) (lv' := [(2, .int _), (0, .ref _), (1, .int _)]) rfl ?_
    refine b_iload_n hO dX3_readComparison_15 0 rfl rfl ?_
    refine b_if_ne hO dX3_readComparison_16 (tgt := 27) (by decide) ?_ ?_
    · refine b_aload_n hO dX3_readComparison_27 1 rfl rfl ?_
      refine b_get hO flX3_15 kLX_2 (v := .ref (ad 3)) rfl dX3_readComparison_28 ?_
      refine b_callVV hO mdX8_advance mvX8_advance w848 (ci := 8) rfl rfl (by decide) kLX_3 (As := []) (st := []) (ctX8_advance n0 hO.2.2.2.2.2.2.1 _) (by omega) rfl rfl (Nat.le_of_ble_eq_true rfl) dX3_readComparison_31 (fun z31 => ?_)
      refine b_aload_n hO dX3_readComparison_34 1 rfl rfl ?_
      refine b_iload_n hO dX3_readComparison_35 2 rfl rfl ?_
      refine b_callVI hO mdX3_readSum mvX3_readSum w828 (ci := 3) rfl rfl (by decide) kLX_2 (As := [.int _]) (st := []) (hrec.1 _ _) (by omega) rfl rfl (Nat.le_of_ble_eq_true rfl) dX3_readComparison_36 (fun z36 => ?_)
      refine b_if_eq hO dX3_readComparison_39 (tgt := 54) (by decide) ?_ ?_
      · refine b_iconst hO dX3_readComparison_54 ic_i_0 ?_
        exact b_zretc hO (Or.inl rfl) dX3_readComparison_55
      · refine b_aload_n hO dX3_readComparison_42 1 rfl rfl ?_
        refine b_iload_n hO dX3_readComparison_43 0 rfl rfl ?_
        refine b_callVI hO mdX3_add mvX3_add w860 (ci := 3) rfl rfl (by decide) kLX_2 (As := [.int _]) (st := []) (ctX3_add n0 hO.2.2.2.2.2.2.1 _ _) (by omega) rfl rfl (Nat.le_of_ble_eq_true rfl) dX3_readComparison_44 (fun z44 => ?_)
        refine b_if_eq hO dX3_readComparison_47 (tgt := 54) (by decide) ?_ ?_
        · refine b_iconst hO dX3_readComparison_54 ic_i_0 ?_
          exact b_zretc hO (Or.inl rfl) dX3_readComparison_55
        · refine b_iconst hO dX3_readComparison_50 ic_i_1 ?_
          refine b_goto hO dX3_readComparison_51 (tgt := 55) (by decide) ?_
          exact b_zretc hO (Or.inr rfl) dX3_readComparison_55
    · refine b_aload_n hO dX3_readComparison_19 1 rfl rfl ?_
      refine b_get hO flX3_15 kLX_2 (v := .ref (ad 3)) rfl dX3_readComparison_20 ?_
      refine b_callVI hO mdX8_failHere mvX8_failHere w849 (ci := 8) rfl rfl (by decide) kLX_3 (As := []) (st := []) (ctX8_failHere n0 hO.2.2.2.2.2.2.1 _) (by omega) rfl rfl (Nat.le_of_ble_eq_true rfl) dX3_readComparison_23 (fun z23 => ?_)
      exact b_zret hO dX3_readComparison_26
  · refine b_iconst hO dX3_readComparison_8 ic_i_0 ?_
    exact b_zretc hO (Or.inl rfl) dX3_readComparison_9
theorem ctX3_readComparison (n0 : Nat) (rec : Nat → Int32 → Int32 → Mem → Option (Int32 × Mem)) (hI : Inj LX ad) (hrec : recOK l LX D cy ad 5 dd rec) (x1 : Int32) (M : Mem) : CT l LX D cy ad yX3_readComparison cX3_readComparison 3 (some .boolean) (5 + dd + 1) (QI LX D cy ad) [.ref (ad 2), .int x1] M (fX3_readComparison n0 rec x1 M) :=
  CT.mk LXok hI (by decide) (Nat.le_of_ble_eq_true rfl) (fun hO => tfX3_readComparison n0 rec hO hrec x1 M)
def recX3F (n0 : Nat) (rec : Nat → Int32 → Int32 → Mem → Option (Int32 × Mem)) (t : Nat) (a b : Int32) (M : Mem) : Option (Int32 × Mem) := if t = 0 then fX3_readSum n0 rec a M else if t = 1 then fX3_readProduct n0 rec a M else if t = 2 then fX3_readPart n0 rec a M else if t = 3 then fX3_readPair n0 rec a b M else if t = 4 then fX3_readChoice n0 rec a M else if t = 5 then fX3_readTest n0 rec a M else if t = 6 then fX3_readBoth n0 rec a M else if t = 7 then fX3_readFact n0 rec a M else if t = 8 then fX3_readComparison n0 rec a M else none
def recX3 (n0 : Nat) : Nat → Nat → Int32 → Int32 → Mem → Option (Int32 × Mem) := loopN (recX3F n0) (fun _ _ _ _ => none)
theorem recX3_ok (n0 : Nat) (hI : Inj LX ad) : ∀ d, recOK l LX D cy ad 5 d (recX3 n0 d)
  | 0 => ⟨fun _ _ => (fun _ h => by cases h), fun _ _ => (fun _ h => by cases h), fun _ _ => (fun _ h => by cases h), fun _ _ _ => (fun _ h => by cases h), fun _ _ => (fun _ h => by cases h), fun _ _ => (fun _ h => by cases h), fun _ _ => (fun _ h => by cases h), fun _ _ => (fun _ h => by cases h), fun _ _ => (fun _ h => by cases h)⟩
  | d + 1 => by
    have ih := recX3_ok n0 hI d
    exact ⟨fun a M => ctX3_readSum n0 (recX3 n0 d) hI ih a M, fun a M => ctX3_readProduct n0 (recX3 n0 d) hI ih a M, fun a M => ctX3_readPart n0 (recX3 n0 d) hI ih a M, fun a b M => ctX3_readPair n0 (recX3 n0 d) hI ih a b M, fun a M => ctX3_readChoice n0 (recX3 n0 d) hI ih a M, fun a M => ctX3_readTest n0 (recX3 n0 d) hI ih a M, fun a M => ctX3_readBoth n0 (recX3 n0 d) hI ih a M, fun a M => ctX3_readFact n0 (recX3 n0 d) hI ih a M, fun a M => ctX3_readComparison n0 (recX3 n0 d) hI ih a M⟩
/-! X3_readSays -/
def fX3_readSays (n0 : Nat) (q1 : Nat) (M : Mem) : Option (Int32 × Mem) :=
  bnd (sR M 257 q1) fun M2 =>
  bnd (sI M2 258 (0 : Int32)) fun M7 =>
  (recX3 n0 100 0 (0 : Int32) (0 : Int32) M7).bind fun z12 =>
  if z12.1 = 0 ∨ z12.1 = 1 then some (z12.1, z12.2) else none
theorem tfX3_readSays (n0 : Nat) (q1 : Nat) (hq1 : isK LX q1 0) (hO : OKc p (rmL 106) s m args meth c LX D cy ad cX3_readSays RX3 2 106 (some .boolean)) (M : Mem) : BL p l e (rmL 106) s m args below meth c LX D cy ad 2 (QI LX D cy ad) 0 [(0, .ref (ad 2)), (1, .ref (ad q1))] [] M (fX3_readSays n0 q1 M) := by
  unfold fX3_readSays
  refine b_aload_n hO dX3_readSays_0 0 rfl rfl ?_
  refine b_aload_n hO dX3_readSays_1 1 rfl rfl ?_
  refine b_putR hO flX3_19 kLX_2 rfl (id := 257) rfl hq1 rfl rfl dX3_readSays_2 ?_
  refine b_bnd (fun M2 => ?_)
  refine b_aload_n hO dX3_readSays_5 0 rfl rfl ?_
  refine b_iconst hO dX3_readSays_6 ic_i_0 ?_
  refine b_putZc hO flX3_9 kLX_2 rfl rfl rfl (id := 258) rfl (Or.inl rfl) dX3_readSays_7 ?_
  refine b_bnd (fun M7 => ?_)
  refine b_aload_n hO dX3_readSays_10 0 rfl rfl ?_
  refine b_iconst hO dX3_readSays_11 ic_i_0 ?_
  refine b_callVI hO mdX3_readSum mvX3_readSum w828 (ci := 3) rfl rfl (by decide) kLX_2 (As := [.int _]) (st := []) ((recX3_ok n0 hO.2.2.2.2.2.2.1 100).1 _ _) (Nat.le_of_ble_eq_true rfl) rfl rfl (Nat.le_of_ble_eq_true rfl) dX3_readSays_12 (fun z12 => ?_)
  exact b_zret hO dX3_readSays_15
theorem ctX3_readSays (n0 : Nat) (q1 : Nat) (hq1 : isK LX q1 0) (hI : Inj LX ad) (M : Mem) : CT l LX D cy ad yX3_readSays cX3_readSays 2 (some .boolean) 106 (QI LX D cy ad) [.ref (ad 2), .ref (ad q1)] M (fX3_readSays n0 q1 M) :=
  CT.mk LXok hI (by decide) (Nat.le_of_ble_eq_true rfl) (fun hO => tfX3_readSays n0 q1 hq1 hO M)
/-! X3_readGone -/
def fX3_readGone (n0 : Nat) (q1 : Nat) (M : Mem) : Option (Int32 × Mem) :=
  bnd (sR M 257 q1) fun M2 =>
  bnd (sI M2 258 (1 : Int32)) fun M7 =>
  (recX3 n0 100 5 (0 : Int32) (0 : Int32) M7).bind fun z12 =>
  if z12.1 = 0 ∨ z12.1 = 1 then some (z12.1, z12.2) else none
theorem tfX3_readGone (n0 : Nat) (q1 : Nat) (hq1 : isK LX q1 0) (hO : OKc p (rmL 106) s m args meth c LX D cy ad cX3_readGone RX3 2 106 (some .boolean)) (M : Mem) : BL p l e (rmL 106) s m args below meth c LX D cy ad 2 (QI LX D cy ad) 0 [(0, .ref (ad 2)), (1, .ref (ad q1))] [] M (fX3_readGone n0 q1 M) := by
  unfold fX3_readGone
  refine b_aload_n hO dX3_readGone_0 0 rfl rfl ?_
  refine b_aload_n hO dX3_readGone_1 1 rfl rfl ?_
  refine b_putR hO flX3_19 kLX_2 rfl (id := 257) rfl hq1 rfl rfl dX3_readGone_2 ?_
  refine b_bnd (fun M2 => ?_)
  refine b_aload_n hO dX3_readGone_5 0 rfl rfl ?_
  refine b_iconst hO dX3_readGone_6 ic_i_1 ?_
  refine b_putZc hO flX3_9 kLX_2 rfl rfl rfl (id := 258) rfl (Or.inr rfl) dX3_readGone_7 ?_
  refine b_bnd (fun M7 => ?_)
  refine b_aload_n hO dX3_readGone_10 0 rfl rfl ?_
  refine b_iconst hO dX3_readGone_11 ic_i_0 ?_
  refine b_callVI hO mdX3_readTest mvX3_readTest w868 (ci := 3) rfl rfl (by decide) kLX_2 (As := [.int _]) (st := []) ((recX3_ok n0 hO.2.2.2.2.2.2.1 100).2.2.2.2.2.1 _ _) (Nat.le_of_ble_eq_true rfl) rfl rfl (Nat.le_of_ble_eq_true rfl) dX3_readGone_12 (fun z12 => ?_)
  exact b_zret hO dX3_readGone_15
theorem ctX3_readGone (n0 : Nat) (q1 : Nat) (hq1 : isK LX q1 0) (hI : Inj LX ad) (M : Mem) : CT l LX D cy ad yX3_readGone cX3_readGone 2 (some .boolean) 106 (QI LX D cy ad) [.ref (ad 2), .ref (ad q1)] M (fX3_readGone n0 q1 M) :=
  CT.mk LXok hI (by decide) (Nat.le_of_ble_eq_true rfl) (fun hO => tfX3_readGone n0 q1 hq1 hO M)
end
