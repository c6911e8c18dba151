section
variable {p : Program} {l : Launch} {e : Env} {s : State} {m : MethodId} {args : Array Value} {below : List Frame} {meth : Method} {c : Code} {D : va_G} {cy : Nat → ClassId} {ad : Nat → Nat} {dd : Nat}

/-! X12_roading -/
def fX12_roading_78 (n0 : Nat) (k47 : Int32 → Int32 → Int32 → Mem → Option (Mem)) (x1 : Int32) (x3 : Int32) (u0 : Int32) (u1 : Int32) (M : Mem) : Option (Mem) :=
  bnd (u0 ||| u1) fun x2_79 =>
  k47 x1 x2_79 (x3 + (1 : Int32)) M
def bX12_roading_47 (n0 : Nat) (k47 : Int32 → Int32 → Int32 → Mem → Option (Mem)) (x1 : Int32) (x2 : Int32) (x3 : Int32) (M : Mem) : Option (Mem) :=
  if (5 : Int32) ≤ x3 then
    (fX12_knownBut n0 (1 : Int32) x2 M).bind fun z89 =>
    (fX12_must_ n0 (495874044019 : Int64) z89.2).bind fun z97 =>
    (fX12_number n0 (1 : Int32) (30 : Int32) z97).bind fun z104 =>
    if (gI z104.2 8) ≤ 0 then
      (fX12_at n0 (gI z104.2 34) x1 z89.1 z104.2).bind fun z128 =>
      if oob z128.1 50 then none else
      bnd (sA z128.2 8 (Int32.toNatClampNeg z128.1) z104.1) fun M133 =>
      (fX12_at n0 (gI M133 34) z89.1 x1 M133).bind fun z145 =>
      if oob z145.1 50 then none else
      bnd (sA z145.2 8 (Int32.toNatClampNeg z145.1) z104.1) fun M150 =>
      if oob (gI M150 34) 2 then none else
      if oob (gI M150 34) 2 then none else
      some (sA M150 7 (Int32.toNatClampNeg (gI M150 34)) ((gA M150 7 (Int32.toNatClampNeg (gI M150 34))) + (1 : Int32)))
    else
      some z104.2
  else
    (fX12_at n0 (gI M 34) x1 x3 M).bind fun z64 =>
    if oob z64.1 50 then none else
    if (gA z64.2 8 (Int32.toNatClampNeg z64.1)) ≤ 0 then
      fX12_roading_78 n0 k47 x1 x3 x2 (0 : Int32) z64.2
    else
      fX12_roading_78 n0 k47 x1 x3 x2 ((1 : Int32) <<< (x3 &&& 31)) z64.2
def fX12_roading_47 (n0 : Nat) : Int32 → Int32 → Int32 → Mem → Option (Mem) := loopN (bX12_roading_47 n0) (fun _ _ _ _ => none) n0
def fX12_roading_20 (n0 : Nat) (u1 : Int32) (M : Mem) : Option (Mem) :=
  (fX12_counts n0 u1 M).bind fun z20 =>
  if z20.1 = 0 then
    some z20.2
  else
    (fX12_knownBut n0 (1 : Int32) (0 : Int32) z20.2).bind fun z30 =>
    (fX12_must_ n0 (29807 : Int64) z30.2).bind fun z38 =>
    bnd ((1 : Int32) <<< (z30.1 &&& 31)) fun x2_44 =>
    fX12_roading_47 n0 z30.1 x2_44 (0 : Int32) z38
def fX12_roading (n0 : Nat) (M : Mem) : Option (Mem) :=
  if oob (gI M 34) 2 then none else
  if (gA M 7 (Int32.toNatClampNeg (gI M 34))) = (10 : Int32) then
    fX12_roading_20 n0 (1 : Int32) M
  else
    fX12_roading_20 n0 (0 : Int32) M
theorem tfX12_roading_78 (n0 : Nat) (hO : OKc p (rmL 4) s m args meth c LY D cy ad cX12_roading RX12 5 4 none) (k47 : Int32 → Int32 → Int32 → Mem → Option (Mem)) (hk47 : ∀ (x1 : Int32) (x2 : Int32) (x3 : Int32) (M : Mem), BL p l e (rmL 4) s m args below meth c LY D cy ad 5 (QV LY D cy ad) 47 [(0, .ref (ad 0)), (1, .int x1), (2, .int x2), (3, .int x3)] [] M (k47 x1 x2 x3 M)) (x1 : Int32) (x3 : Int32) (u0 : Int32) (u1 : Int32) (M : Mem) : BL p l e (rmL 4) s m args below meth c LY D cy ad 5 (QV LY D cy ad) 78 [(0, .ref (ad 0)), (1, .int x1), (3, .int x3)] [.int u1, .int u0] M (fX12_roading_78 n0 k47 x1 x3 u0 u1 M) := by
  unfold fX12_roading_78
  refine b_ior hO dX12_roading_78 ?_
  refine b_topI (fun x2_79 => ?_)
  refine b_istore_n hO dX12_roading_79 rfl (by decide) (lv' := [(2, .int _), (0, .ref _), (1, .int _), (3, .int _)]) rfl ?_
  refine b_iinc hO dX12_roading_80 3 rfl ic_i_1 (by decide) (lv' := [(3, .int _), (2, .int _), (0, .ref _), (1, .int _)]) rfl ?_
  refine b_goto hO dX12_roading_83 (tgt := 47) (by decide) ?_
  refine b_sub [2, 3, 1, 0] rfl ?_
  exact hk47 _ _ _ _
theorem tbX12_roading_47 (n0 : Nat) (hO : OKc p (rmL 4) s m args meth c LY D cy ad cX12_roading RX12 5 4 none) (k47 : Int32 → Int32 → Int32 → Mem → Option (Mem)) (hk47 : ∀ (x1 : Int32) (x2 : Int32) (x3 : Int32) (M : Mem), BL p l e (rmL 4) s m args below meth c LY D cy ad 5 (QV LY D cy ad) 47 [(0, .ref (ad 0)), (1, .int x1), (2, .int x2), (3, .int x3)] [] M (k47 x1 x2 x3 M)) (x1 : Int32) (x2 : Int32) (x3 : Int32) (M : Mem) : BL p l e (rmL 4) s m args below meth c LY D cy ad 5 (QV LY D cy ad) 47 [(0, .ref (ad 0)), (1, .int x1), (2, .int x2), (3, .int x3)] [] M (bX12_roading_47 n0 k47 x1 x2 x3 M) := by
  unfold bX12_roading_47
  refine b_iload_n hO dX12_roading_47 3 rfl rfl ?_
  refine b_iconst hO dX12_roading_48 ic_i_5 ?_
  refine b_icmp_ge hO dX12_roading_49 (tgt := 86) (by decide) ?_ ?_
  · refine b_aload_n hO dX12_roading_86 0 rfl rfl ?_
    refine b_iconst hO dX12_roading_87 ic_i_1 ?_
    refine b_iload_n hO dX12_roading_88 2 rfl rfl ?_
    refine b_callVI hO mdX12_knownBut mvX12_knownBut w1571 (ci := 12) rfl rfl (by decide) kLY_0 (As := [.int _, .int _]) (st := []) (ctX12_knownBut n0 hO.2.2.2.2.2.2.1 _ _ _) (Nat.le_of_ble_eq_true rfl) rfl rfl (Nat.le_of_ble_eq_true rfl) dX12_roading_89 (fun z89 => ?_)
    refine b_istore_n hO dX12_roading_92 rfl (by decide) (lv' := [(3, .int _), (0, .ref _), (1, .int _), (2, .int _)]) rfl ?_
    refine b_aload_n hO dX12_roading_93 1 rfl rfl ?_
    refine b_ldc2 hO w1521 dX12_roading_94 ?_
    refine b_callVV hO mdX12_must_ mvX12_must_ w1552 (ci := 12) rfl rfl (by decide) kLY_0 (As := [.long _]) (st := []) (ctX12_must_ n0 hO.2.2.2.2.2.2.1 _ _) (Nat.le_of_ble_eq_true rfl) rfl rfl (Nat.le_of_ble_eq_true rfl) dX12_roading_97 (fun z97 => ?_)
    refine b_aload_n hO dX12_roading_100 1 rfl rfl ?_
    refine b_iconst hO dX12_roading_101 ic_i_1 ?_
    refine b_bipush hO dX12_roading_102 ic_b_30 ?_
    refine b_callVI hO mdX12_number mvX12_number w1556 (ci := 12) rfl rfl (by decide) kLY_0 (As := [.int _, .int _]) (st := []) (ctX12_number n0 hO.2.2.2.2.2.2.1 _ _ _) (Nat.le_of_ble_eq_true rfl) rfl rfl (Nat.le_of_ble_eq_true rfl) dX12_roading_104 (fun z104 => ?_)
    refine b_istore hO dX12_roading_107 (by decide) (lv' := [(4, .int _), (3, .int _), (0, .ref _), (1, .int _), (2, .int _)]) rfl ?_
    refine b_aload_n hO dX12_roading_109 2 rfl rfl ?_
    refine b_get hO flX12_36 kLY_0 (v := .int (gI _ 8)) rfl dX12_roading_110 ?_
    refine b_if_le hO dX12_roading_113 (tgt := 117) (by decide) ?_ ?_
    · refine b_aload_n hO dX12_roading_117 2 rfl rfl ?_
      refine b_get hO flX12_72 kLY_0 (v := .ref (ad 8)) rfl dX12_roading_118 ?_
      refine b_aload_n hO dX12_roading_121 2 rfl rfl ?_
      refine b_aload_n hO dX12_roading_122 2 rfl rfl ?_
      refine b_get hO flX12_115 kLY_0 (v := .int (gI _ 34)) rfl dX12_roading_123 ?_
      refine b_iload_n hO dX12_roading_126 3 rfl rfl ?_
      refine b_iload_n hO dX12_roading_127 1 rfl rfl ?_
      refine b_callVI hO mdX12_at mvX12_at w1469 (ci := 12) rfl rfl (by decide) kLY_0 (As := [.int _, .int _, .int _]) (st := [.ref _]) (ctX12_at n0 hO.2.2.2.2.2.2.1 _ _ _ _) (Nat.le_of_ble_eq_true rfl) rfl rfl (Nat.le_of_ble_eq_true rfl) dX12_roading_128 (fun z128 => ?_)
      refine b_iload hO dX12_roading_131 0 rfl ?_
      refine b_iast hO kLY_8 (n := 50) rfl dX12_roading_133 ?_
      refine b_bnd (fun M133 => ?_)
      refine b_aload_n hO dX12_roading_134 2 rfl rfl ?_
      refine b_get hO flX12_72 kLY_0 (v := .ref (ad 8)) rfl dX12_roading_135 ?_
      refine b_aload_n hO dX12_roading_138 2 rfl rfl ?_
      refine b_aload_n hO dX12_roading_139 2 rfl rfl ?_
      refine b_get hO flX12_115 kLY_0 (v := .int (gI _ 34)) rfl dX12_roading_140 ?_
      refine b_iload_n hO dX12_roading_143 1 rfl rfl ?_
      refine b_iload_n hO dX12_roading_144 3 rfl rfl ?_
      refine b_callVI hO mdX12_at mvX12_at w1469 (ci := 12) rfl rfl (by decide) kLY_0 (As := [.int _, .int _, .int _]) (st := [.ref _]) (ctX12_at n0 hO.2.2.2.2.2.2.1 _ _ _ _) (Nat.le_of_ble_eq_true rfl) rfl rfl (Nat.le_of_ble_eq_true rfl) dX12_roading_145 (fun z145 => ?_)
      refine b_iload hO dX12_roading_148 0 rfl ?_
      refine b_iast hO kLY_8 (n := 50) rfl dX12_roading_150 ?_
      refine b_bnd (fun M150 => ?_)
      refine b_aload_n hO dX12_roading_151 2 rfl rfl ?_
      refine b_get hO flX12_69 kLY_0 (v := .ref (ad 7)) rfl dX12_roading_152 ?_
      refine b_aload_n hO dX12_roading_155 2 rfl rfl ?_
      refine b_get hO flX12_115 kLY_0 (v := .int (gI _ 34)) rfl dX12_roading_156 ?_
      refine b_dup2 hO dX12_roading_159 rfl rfl ?_
      refine b_iald hO kLY_7 (n := 2) rfl dX12_roading_160 ?_
      refine b_iconst hO dX12_roading_161 ic_i_1 ?_
      refine b_iadd hO dX12_roading_162 ?_
      refine b_iast hO kLY_7 (n := 2) rfl dX12_roading_163 ?_
      exact b_vret hO dX12_roading_164
    · exact b_vret hO dX12_roading_116
  · refine b_iload_n hO dX12_roading_52 2 rfl rfl ?_
    refine b_aload_n hO dX12_roading_53 0 rfl rfl ?_
    refine b_get hO flX12_72 kLY_0 (v := .ref (ad 8)) rfl dX12_roading_54 ?_
    refine b_aload_n hO dX12_roading_57 0 rfl rfl ?_
    refine b_aload_n hO dX12_roading_58 0 rfl rfl ?_
    refine b_get hO flX12_115 kLY_0 (v := .int (gI _ 34)) rfl dX12_roading_59 ?_
    refine b_iload_n hO dX12_roading_62 1 rfl rfl ?_
    refine b_iload_n hO dX12_roading_63 3 rfl rfl ?_
    refine b_callVI hO mdX12_at mvX12_at w1469 (ci := 12) rfl rfl (by decide) kLY_0 (As := [.int _, .int _, .int _]) (st := [.ref _, .int _]) (ctX12_at n0 hO.2.2.2.2.2.2.1 _ _ _ _) (Nat.le_of_ble_eq_true rfl) rfl rfl (Nat.le_of_ble_eq_true rfl) dX12_roading_64 (fun z64 => ?_)
    refine b_iald hO kLY_8 (n := 50) rfl dX12_roading_67 ?_
    refine b_if_le hO dX12_roading_68 (tgt := 77) (by decide) ?_ ?_
    · refine b_iconst hO dX12_roading_77 ic_i_0 ?_
      refine b_sub [0, 1, 3] rfl ?_
      exact tfX12_roading_78 n0 hO k47 hk47 _ _ _ _ _
    · refine b_iconst hO dX12_roading_71 ic_i_1 ?_
      refine b_iload_n hO dX12_roading_72 3 rfl rfl ?_
      refine b_ishl hO dX12_roading_73 ?_
      refine b_goto hO dX12_roading_74 (tgt := 78) (by decide) ?_
      refine b_sub [0, 1, 3] rfl ?_
      exact tfX12_roading_78 n0 hO k47 hk47 _ _ _ _ _
theorem lX12_roading_47 (n0 : Nat) (hO : OKc p (rmL 4) s m args meth c LY D cy ad cX12_roading RX12 5 4 none) : ∀ (w : Nat) (x1 : Int32) (x2 : Int32) (x3 : Int32) (M : Mem), BL p l e (rmL 4) s m args below meth c LY D cy ad 5 (QV LY D cy ad) 47 [(0, .ref (ad 0)), (1, .int x1), (2, .int x2), (3, .int x3)] [] M (loopN (bX12_roading_47 n0) (fun _ _ _ _ => none) w x1 x2 x3 M) := by
  intro w
  induction w with
  | zero =>
    intros
    exact b_none
  | succ w ih =>
    intro x1 x2 x3 M
    exact tbX12_roading_47 n0 hO _ ih x1 x2 x3 M
theorem tfX12_roading_47 (n0 : Nat) (hO : OKc p (rmL 4) s m args meth c LY D cy ad cX12_roading RX12 5 4 none) (x1 : Int32) (x2 : Int32) (x3 : Int32) (M : Mem) : BL p l e (rmL 4) s m args below meth c LY D cy ad 5 (QV LY D cy ad) 47 [(0, .ref (ad 0)), (1, .int x1), (2, .int x2), (3, .int x3)] [] M (fX12_roading_47 n0 x1 x2 x3 M) := lX12_roading_47 n0 hO n0 x1 x2 x3 M
theorem tfX12_roading_20 (n0 : Nat) (hO : OKc p (rmL 4) s m args meth c LY D cy ad cX12_roading RX12 5 4 none) (u1 : Int32) (M : Mem) : BL p l e (rmL 4) s m args below meth c LY D cy ad 5 (QV LY D cy ad) 20 [(0, .ref (ad 0))] [.int u1, .ref (ad 0)] M (fX12_roading_20 n0 u1 M) := by
  unfold fX12_roading_20
  refine b_callVI hO mdX12_counts mvX12_counts w1504 (ci := 12) rfl rfl (by decide) kLY_0 (As := [.int _]) (st := []) (ctX12_counts n0 hO.2.2.2.2.2.2.1 _ _) (Nat.le_of_ble_eq_true rfl) rfl rfl (Nat.le_of_ble_eq_true rfl) dX12_roading_20 (fun z20 => ?_)
  refine b_if_ne hO dX12_roading_23 (tgt := 27) (by decide) ?_ ?_
  · refine b_aload_n hO dX12_roading_27 0 rfl rfl ?_
    refine b_iconst hO dX12_roading_28 ic_i_1 ?_
    refine b_iconst hO dX12_roading_29 ic_i_0 ?_
    refine b_callVI hO mdX12_knownBut mvX12_knownBut w1571 (ci := 12) rfl rfl (by decide) kLY_0 (As := [.int _, .int _]) (st := []) (ctX12_knownBut n0 hO.2.2.2.2.2.2.1 _ _ _) (Nat.le_of_ble_eq_true rfl) rfl rfl (Nat.le_of_ble_eq_true rfl) dX12_roading_30 (fun z30 => ?_)
    refine b_istore_n hO dX12_roading_33 rfl (by decide) (lv' := [(1, .int _), (0, .ref _)]) rfl ?_
    refine b_aload_n hO dX12_roading_34 1 rfl rfl ?_
    refine b_ldc2 hO w1520 dX12_roading_35 ?_
    refine b_callVV hO mdX12_must_ mvX12_must_ w1552 (ci := 12) rfl rfl (by decide) kLY_0 (As := [.long _]) (st := []) (ctX12_must_ n0 hO.2.2.2.2.2.2.1 _ _) (Nat.le_of_ble_eq_true rfl) rfl rfl (Nat.le_of_ble_eq_true rfl) dX12_roading_38 (fun z38 => ?_)
    refine b_iconst hO dX12_roading_41 ic_i_1 ?_
    refine b_iload_n hO dX12_roading_42 0 rfl rfl ?_
    refine b_ishl hO dX12_roading_43 ?_
    refine b_topI (fun x2_44 => ?_)
    refine b_istore_n hO dX12_roading_44 rfl (by decide) (lv' := [(2, .int _), (1, .int _), (0, .ref _)]) rfl ?_
    refine b_iconst hO dX12_roading_45 ic_i_0 ?_
    refine b_istore_n hO dX12_roading_46 rfl (by decide) (lv' := [(3, .int _), (2, .int _), (1, .int _), (0, .ref _)]) rfl ?_
    refine b_sub [3, 2, 1, 0] rfl ?_
    exact tfX12_roading_47 n0 hO _ _ _ _
  · exact b_vret hO dX12_roading_26
theorem tfX12_roading (n0 : Nat) (hO : OKc p (rmL 4) s m args meth c LY D cy ad cX12_roading RX12 5 4 none) (M : Mem) : BL p l e (rmL 4) s m args below meth c LY D cy ad 5 (QV LY D cy ad) 0 [(0, .ref (ad 0))] [] M (fX12_roading n0 M) := by
  unfold fX12_roading
  refine b_aload_n hO dX12_roading_0 0 rfl rfl ?_
  refine b_aload_n hO dX12_roading_1 0 rfl rfl ?_
  refine b_get hO flX12_69 kLY_0 (v := .ref (ad 7)) rfl dX12_roading_2 ?_
  refine b_aload_n hO dX12_roading_5 0 rfl rfl ?_
  refine b_get hO flX12_115 kLY_0 (v := .int (gI _ 34)) rfl dX12_roading_6 ?_
  refine b_iald hO kLY_7 (n := 2) rfl dX12_roading_9 ?_
  refine b_bipush hO dX12_roading_10 ic_b_10 ?_
  refine b_icmp_ne hO dX12_roading_12 (tgt := 19) (by decide) ?_ ?_
  · refine b_iconst hO dX12_roading_19 ic_i_0 ?_
    exact tfX12_roading_20 n0 hO _ _
  · refine b_iconst hO dX12_roading_15 ic_i_1 ?_
    refine b_goto hO dX12_roading_16 (tgt := 20) (by decide) ?_
    exact tfX12_roading_20 n0 hO _ _
theorem ctX12_roading (n0 : Nat) (hI : Inj LY ad) (M : Mem) : CT l LY D cy ad yX12_roading cX12_roading 5 none 4 (QV LY D cy ad) [.ref (ad 0)] M (fX12_roading n0 M) :=
  CT.mk LYok hI (by decide) (Nat.le_of_ble_eq_true rfl) (fun hO => tfX12_roading n0 hO M)
/-! X12_palming -/
def fX12_palming_51 (n0 : Nat) (k13 : Int32 → Int32 → Mem → Option (Mem)) (x2 : Int32) (u0 : Int32) (u1 : Int32) (M : Mem) : Option (Mem) :=
  bnd (u0 ||| u1) fun x1_52 =>
  k13 x1_52 (x2 + (1 : Int32)) M
def bX12_palming_13 (n0 : Nat) (k13 : Int32 → Int32 → Mem → Option (Mem)) (x1 : Int32) (x2 : Int32) (M : Mem) : Option (Mem) :=
  if oob (gI M 34) 2 then none else
  if (gA M 5 (Int32.toNatClampNeg (gI M 34))) ≤ x2 then
    (fX12_knownBut n0 (1 : Int32) x1 M).bind fun z62 =>
    (fX12_must_ n0 (6840691 : Int64) z62.2).bind fun z70 =>
    (fX12_knownBut n0 (0 : Int32) (0 : Int32) z70).bind fun z76 =>
    if (gI z76.2 8) = 0 then
      if oob (((5 : Int32) * (gI z76.2 34)) + z62.1) 10 then none else
      some (sA z76.2 6 (Int32.toNatClampNeg (((5 : Int32) * (gI z76.2 34)) + z62.1)) z76.1)
    else
      some z76.2
  else
    if oob (((5 : Int32) * (gI M 34)) + x2) 10 then none else
    if (gA M 6 (Int32.toNatClampNeg (((5 : Int32) * (gI M 34)) + x2))) = (-1 : Int32) then
      fX12_palming_51 n0 k13 x2 x1 (0 : Int32) M
    else
      fX12_palming_51 n0 k13 x2 x1 ((1 : Int32) <<< (x2 &&& 31)) M
def fX12_palming_13 (n0 : Nat) : Int32 → Int32 → Mem → Option (Mem) := loopN (bX12_palming_13 n0) (fun _ _ _ => none) n0
def fX12_palming (n0 : Nat) (M : Mem) : Option (Mem) :=
  (fX12_counts n0 (0 : Int32) M).bind fun z2 =>
  if z2.1 = 0 then
    some z2.2
  else
    fX12_palming_13 n0 (0 : Int32) (0 : Int32) z2.2
theorem tfX12_palming_51 (n0 : Nat) (hO : OKc p (rmL 4) s m args meth c LY D cy ad cX12_palming RX12 4 4 none) (k13 : Int32 → Int32 → Mem → Option (Mem)) (hk13 : ∀ (x1 : Int32) (x2 : Int32) (M : Mem), BL p l e (rmL 4) s m args below meth c LY D cy ad 4 (QV LY D cy ad) 13 [(0, .ref (ad 0)), (1, .int x1), (2, .int x2)] [] M (k13 x1 x2 M)) (x2 : Int32) (u0 : Int32) (u1 : Int32) (M : Mem) : BL p l e (rmL 4) s m args below meth c LY D cy ad 4 (QV LY D cy ad) 51 [(0, .ref (ad 0)), (2, .int x2)] [.int u1, .int u0] M (fX12_palming_51 n0 k13 x2 u0 u1 M) := by
  unfold fX12_palming_51
  refine b_ior hO dX12_palming_51 ?_
  refine b_topI (fun x1_52 => ?_)
  refine b_istore_n hO dX12_palming_52 rfl (by decide) (lv' := [(1, .int _), (0, .ref _), (2, .int _)]) rfl ?_
  refine b_iinc hO dX12_palming_53 2 rfl ic_i_1 (by decide) (lv' := [(2, .int _), (1, .int _), (0, .ref _)]) rfl ?_
  refine b_goto hO dX12_palming_56 (tgt := 13) (by decide) ?_
  refine b_sub [2, 1, 0] rfl ?_
  exact hk13 _ _ _
theorem tbX12_palming_13 (n0 : Nat) (hO : OKc p (rmL 4) s m args meth c LY D cy ad cX12_palming RX12 4 4 none) (k13 : Int32 → Int32 → Mem → Option (Mem)) (hk13 : ∀ (x1 : Int32) (x2 : Int32) (M : Mem), BL p l e (rmL 4) s m args below meth c LY D cy ad 4 (QV LY D cy ad) 13 [(0, .ref (ad 0)), (1, .int x1), (2, .int x2)] [] M (k13 x1 x2 M)) (x1 : Int32) (x2 : Int32) (M : Mem) : BL p l e (rmL 4) s m args below meth c LY D cy ad 4 (QV LY D cy ad) 13 [(0, .ref (ad 0)), (1, .int x1), (2, .int x2)] [] M (bX12_palming_13 n0 k13 x1 x2 M) := by
  unfold bX12_palming_13
  refine b_iload_n hO dX12_palming_13 2 rfl rfl ?_
  refine b_aload_n hO dX12_palming_14 0 rfl rfl ?_
  refine b_get hO flX12_63 kLY_0 (v := .ref (ad 5)) rfl dX12_palming_15 ?_
  refine b_aload_n hO dX12_palming_18 0 rfl rfl ?_
  refine b_get hO flX12_115 kLY_0 (v := .int (gI _ 34)) rfl dX12_palming_19 ?_
  refine b_iald hO kLY_5 (n := 2) rfl dX12_palming_22 ?_
  refine b_icmp_ge hO dX12_palming_23 (tgt := 59) (by decide) ?_ ?_
  · refine b_aload_n hO dX12_palming_59 0 rfl rfl ?_
    refine b_iconst hO dX12_palming_60 ic_i_1 ?_
    refine b_iload_n hO dX12_palming_61 1 rfl rfl ?_
    refine b_callVI hO mdX12_knownBut mvX12_knownBut w1571 (ci := 12) rfl rfl (by decide) kLY_0 (As := [.int _, .int _]) (st := []) (ctX12_knownBut n0 hO.2.2.2.2.2.2.1 _ _ _) (Nat.le_of_ble_eq_true rfl) rfl rfl (Nat.le_of_ble_eq_true rfl) dX12_palming_62 (fun z62 => ?_)
    refine b_istore_n hO dX12_palming_65 rfl (by decide) (lv' := [(2, .int _), (0, .ref _), (1, .int _)]) rfl ?_
    refine b_aload_n hO dX12_palming_66 1 rfl rfl ?_
    refine b_ldc2 hO w1523 dX12_palming_67 ?_
    refine b_callVV hO mdX12_must_ mvX12_must_ w1552 (ci := 12) rfl rfl (by decide) kLY_0 (As := [.long _]) (st := []) (ctX12_must_ n0 hO.2.2.2.2.2.2.1 _ _) (Nat.le_of_ble_eq_true rfl) rfl rfl (Nat.le_of_ble_eq_true rfl) dX12_palming_70 (fun z70 => ?_)
    refine b_aload_n hO dX12_palming_73 1 rfl rfl ?_
    refine b_iconst hO dX12_palming_74 ic_i_0 ?_
    refine b_iconst hO dX12_palming_75 ic_i_0 ?_
    refine b_callVI hO mdX12_knownBut mvX12_knownBut w1571 (ci := 12) rfl rfl (by decide) kLY_0 (As := [.int _, .int _]) (st := []) (ctX12_knownBut n0 hO.2.2.2.2.2.2.1 _ _ _) (Nat.le_of_ble_eq_true rfl) rfl rfl (Nat.le_of_ble_eq_true rfl) dX12_palming_76 (fun z76 => ?_)
    refine b_istore_n hO dX12_palming_79 rfl (by decide) (lv' := [(3, .int _), (2, .int _), (0, .ref _), (1, .int _)]) rfl ?_
    refine b_aload_n hO dX12_palming_80 2 rfl rfl ?_
    refine b_get hO flX12_36 kLY_0 (v := .int (gI _ 8)) rfl dX12_palming_81 ?_
    refine b_if_ne hO dX12_palming_84 (tgt := 101) (by decide) ?_ ?_
    · exact b_vret hO dX12_palming_101
    · refine b_aload_n hO dX12_palming_87 2 rfl rfl ?_
      refine b_get hO flX12_66 kLY_0 (v := .ref (ad 6)) rfl dX12_palming_88 ?_
      refine b_iconst hO dX12_palming_91 ic_i_5 ?_
      refine b_aload_n hO dX12_palming_92 2 rfl rfl ?_
      refine b_get hO flX12_115 kLY_0 (v := .int (gI _ 34)) rfl dX12_palming_93 ?_
      refine b_imul hO dX12_palming_96 ?_
      refine b_iload_n hO dX12_palming_97 1 rfl rfl ?_
      refine b_iadd hO dX12_palming_98 ?_
      refine b_iload_n hO dX12_palming_99 0 rfl rfl ?_
      refine b_iast hO kLY_6 (n := 10) rfl dX12_palming_100 ?_
      exact b_vret hO dX12_palming_101
  · refine b_iload_n hO dX12_palming_26 1 rfl rfl ?_
    refine b_aload_n hO dX12_palming_27 0 rfl rfl ?_
    refine b_get hO flX12_66 kLY_0 (v := .ref (ad 6)) rfl dX12_palming_28 ?_
    refine b_iconst hO dX12_palming_31 ic_i_5 ?_
    refine b_aload_n hO dX12_palming_32 0 rfl rfl ?_
    refine b_get hO flX12_115 kLY_0 (v := .int (gI _ 34)) rfl dX12_palming_33 ?_
    refine b_imul hO dX12_palming_36 ?_
    refine b_iload_n hO dX12_palming_37 2 rfl rfl ?_
    refine b_iadd hO dX12_palming_38 ?_
    refine b_iald hO kLY_6 (n := 10) rfl dX12_palming_39 ?_
    refine b_iconst hO dX12_palming_40 ic_i_m1 ?_
    refine b_icmp_eq hO dX12_palming_41 (tgt := 50) (by decide) ?_ ?_
    · refine b_iconst hO dX12_palming_50 ic_i_0 ?_
      refine b_sub [0, 2] rfl ?_
      exact tfX12_palming_51 n0 hO k13 hk13 _ _ _ _
    · refine b_iconst hO dX12_palming_44 ic_i_1 ?_
      refine b_iload_n hO dX12_palming_45 2 rfl rfl ?_
      refine b_ishl hO dX12_palming_46 ?_
      refine b_goto hO dX12_palming_47 (tgt := 51) (by decide) ?_
      refine b_sub [0, 2] rfl ?_
      exact tfX12_palming_51 n0 hO k13 hk13 _ _ _ _
theorem lX12_palming_13 (n0 : Nat) (hO : OKc p (rmL 4) s m args meth c LY D cy ad cX12_palming RX12 4 4 none) : ∀ (w : Nat) (x1 : Int32) (x2 : Int32) (M : Mem), BL p l e (rmL 4) s m args below meth c LY D cy ad 4 (QV LY D cy ad) 13 [(0, .ref (ad 0)), (1, .int x1), (2, .int x2)] [] M (loopN (bX12_palming_13 n0) (fun _ _ _ => none) w x1 x2 M) := by
  intro w
  induction w with
  | zero =>
    intros
    exact b_none
  | succ w ih =>
    intro x1 x2 M
    exact tbX12_palming_13 n0 hO _ ih x1 x2 M
theorem tfX12_palming_13 (n0 : Nat) (hO : OKc p (rmL 4) s m args meth c LY D cy ad cX12_palming RX12 4 4 none) (x1 : Int32) (x2 : Int32) (M : Mem) : BL p l e (rmL 4) s m args below meth c LY D cy ad 4 (QV LY D cy ad) 13 [(0, .ref (ad 0)), (1, .int x1), (2, .int x2)] [] M (fX12_palming_13 n0 x1 x2 M) := lX12_palming_13 n0 hO n0 x1 x2 M
theorem tfX12_palming (n0 : Nat) (hO : OKc p (rmL 4) s m args meth c LY D cy ad cX12_palming RX12 4 4 none) (M : Mem) : BL p l e (rmL 4) s m args below meth c LY D cy ad 4 (QV LY D cy ad) 0 [(0, .ref (ad 0))] [] M (fX12_palming n0 M) := by
  unfold fX12_palming
  refine b_aload_n hO dX12_palming_0 0 rfl rfl ?_
  refine b_iconst hO dX12_palming_1 ic_i_0 ?_
  refine b_callVI hO mdX12_counts mvX12_counts w1504 (ci := 12) rfl rfl (by decide) kLY_0 (As := [.int _]) (st := []) (ctX12_counts n0 hO.2.2.2.2.2.2.1 _ _) (Nat.le_of_ble_eq_true rfl) rfl rfl (Nat.le_of_ble_eq_true rfl) dX12_palming_2 (fun z2 => ?_)
  refine b_if_ne hO dX12_palming_5 (tgt := 9) (by decide) ?_ ?_
  · refine b_iconst hO dX12_palming_9 ic_i_0 ?_
    refine b_istore_n hO dX12_palming_10 rfl (by decide) (lv' := [(1, .int _), (0, .ref _)]) rfl ?_
    refine b_iconst hO dX12_palming_11 ic_i_0 ?_
    refine b_istore_n hO dX12_palming_12 rfl (by decide) (lv' := [(2, .int _), (1, .int _), (0, .ref _)]) rfl ?_
    refine b_sub [2, 1, 0] rfl ?_
    exact tfX12_palming_13 n0 hO _ _ _
  · exact b_vret hO dX12_palming_8
theorem ctX12_palming (n0 : Nat) (hI : Inj LY ad) (M : Mem) : CT l LY D cy ad yX12_palming cX12_palming 4 none 4 (QV LY D cy ad) [.ref (ad 0)] M (fX12_palming n0 M) :=
  CT.mk LYok hI (by decide) (Nat.le_of_ble_eq_true rfl) (fun hO => tfX12_palming n0 hO M)
/-! X12_doings -/
def fX12_doings_20 (n0 : Nat) (u1 : Int32) (M : Mem) : Option (Mem) :=
  (fX12_counts n0 u1 M).bind fun z20 =>
  if z20.1 = 0 then
    some z20.2
  else
    if oob (gI z20.2 34) 2 then none else
    bnd (((6 : Int32) * (gI z20.2 34)) + (gA z20.2 10 (Int32.toNatClampNeg (gI z20.2 34)))) fun x1_44 =>
    (fX12_fresh n0 z20.2).bind fun z51 =>
    if oob x1_44 12 then none else
    bnd (sB z51.2 20 (Int32.toNatClampNeg x1_44) z51.1) fun M54 =>
    (fX12_must_ n0 (24948 : Int64) M54).bind fun z59 =>
    (fX12_knownBut n0 (1 : Int32) (0 : Int32) z59).bind fun z70 =>
    if oob x1_44 12 then none else
    bnd (sA z70.2 11 (Int32.toNatClampNeg x1_44) z70.1) fun M73 =>
    (fX12_must_ n0 (1752135026 : Int64) M73).bind fun z78 =>
    (fX12_number n0 (0 : Int32) (23 : Int32) z78).bind fun z90 =>
    if oob x1_44 12 then none else
    bnd (sA z90.2 12 (Int32.toNatClampNeg x1_44) z90.1) fun M93 =>
    if (gI M93 8) = 0 then
      if oob (gI M93 34) 2 then none else
      if oob (gI M93 34) 2 then none else
      some (sA M93 10 (Int32.toNatClampNeg (gI M93 34)) ((gA M93 10 (Int32.toNatClampNeg (gI M93 34))) + (1 : Int32)))
    else
      some M93
def fX12_doings (n0 : Nat) (M : Mem) : Option (Mem) :=
  if oob (gI M 34) 2 then none else
  if (gA M 10 (Int32.toNatClampNeg (gI M 34))) = (6 : Int32) then
    fX12_doings_20 n0 (1 : Int32) M
  else
    fX12_doings_20 n0 (0 : Int32) M
theorem tfX12_doings_20 (n0 : Nat) (hO : OKc p (rmL 4) s m args meth c LY D cy ad cX12_doings RX12 2 4 none) (u1 : Int32) (M : Mem) : BL p l e (rmL 4) s m args below meth c LY D cy ad 2 (QV LY D cy ad) 20 [(0, .ref (ad 0))] [.int u1, .ref (ad 0)] M (fX12_doings_20 n0 u1 M) := by
  unfold fX12_doings_20
  refine b_callVI hO mdX12_counts mvX12_counts w1504 (ci := 12) rfl rfl (by decide) kLY_0 (As := [.int _]) (st := []) (ctX12_counts n0 hO.2.2.2.2.2.2.1 _ _) (Nat.le_of_ble_eq_true rfl) rfl rfl (Nat.le_of_ble_eq_true rfl) dX12_doings_20 (fun z20 => ?_)
  refine b_if_ne hO dX12_doings_23 (tgt := 27) (by decide) ?_ ?_
  · refine b_bipush hO dX12_doings_27 ic_b_6 ?_
    refine b_aload_n hO dX12_doings_29 0 rfl rfl ?_
    refine b_get hO flX12_115 kLY_0 (v := .int (gI _ 34)) rfl dX12_doings_30 ?_
    refine b_imul hO dX12_doings_33 ?_
    refine b_aload_n hO dX12_doings_34 0 rfl rfl ?_
    refine b_get hO flX12_78 kLY_0 (v := .ref (ad 10)) rfl dX12_doings_35 ?_
    refine b_aload_n hO dX12_doings_38 0 rfl rfl ?_
    refine b_get hO flX12_115 kLY_0 (v := .int (gI _ 34)) rfl dX12_doings_39 ?_
    refine b_iald hO kLY_10 (n := 2) rfl dX12_doings_42 ?_
    refine b_iadd hO dX12_doings_43 ?_
    refine b_topI (fun x1_44 => ?_)
    refine b_istore_n hO dX12_doings_44 rfl (by decide) (lv' := [(1, .int _), (0, .ref _)]) rfl ?_
    refine b_aload_n hO dX12_doings_45 1 rfl rfl ?_
    refine b_get hO flX12_109 kLY_0 (v := .ref (ad 20)) rfl dX12_doings_46 ?_
    refine b_iload_n hO dX12_doings_49 0 rfl rfl ?_
    refine b_aload_n hO dX12_doings_50 1 rfl rfl ?_
    refine b_callVL hO mdX12_fresh mvX12_fresh w1508 (ci := 12) rfl rfl (by decide) kLY_0 (As := []) (st := [.int _, .ref _]) (ctX12_fresh n0 hO.2.2.2.2.2.2.1 _) (Nat.le_of_ble_eq_true rfl) rfl rfl (Nat.le_of_ble_eq_true rfl) dX12_doings_51 (fun z51 => ?_)
    refine b_last hO kLY_20 (n := 12) rfl dX12_doings_54 ?_
    refine b_bnd (fun M54 => ?_)
    refine b_aload_n hO dX12_doings_55 1 rfl rfl ?_
    refine b_ldc2 hO w1525 dX12_doings_56 ?_
    refine b_callVV hO mdX12_must_ mvX12_must_ w1552 (ci := 12) rfl rfl (by decide) kLY_0 (As := [.long _]) (st := []) (ctX12_must_ n0 hO.2.2.2.2.2.2.1 _ _) (Nat.le_of_ble_eq_true rfl) rfl rfl (Nat.le_of_ble_eq_true rfl) dX12_doings_59 (fun z59 => ?_)
    refine b_aload_n hO dX12_doings_62 1 rfl rfl ?_
    refine b_get hO flX12_81 kLY_0 (v := .ref (ad 11)) rfl dX12_doings_63 ?_
    refine b_iload_n hO dX12_doings_66 0 rfl rfl ?_
    refine b_aload_n hO dX12_doings_67 1 rfl rfl ?_
    refine b_iconst hO dX12_doings_68 ic_i_1 ?_
    refine b_iconst hO dX12_doings_69 ic_i_0 ?_
    refine b_callVI hO mdX12_knownBut mvX12_knownBut w1571 (ci := 12) rfl rfl (by decide) kLY_0 (As := [.int _, .int _]) (st := [.int _, .ref _]) (ctX12_knownBut n0 hO.2.2.2.2.2.2.1 _ _ _) (Nat.le_of_ble_eq_true rfl) rfl rfl (Nat.le_of_ble_eq_true rfl) dX12_doings_70 (fun z70 => ?_)
    refine b_iast hO kLY_11 (n := 12) rfl dX12_doings_73 ?_
    refine b_bnd (fun M73 => ?_)
    refine b_aload_n hO dX12_doings_74 1 rfl rfl ?_
    refine b_ldc2 hO w1526 dX12_doings_75 ?_
    refine b_callVV hO mdX12_must_ mvX12_must_ w1552 (ci := 12) rfl rfl (by decide) kLY_0 (As := [.long _]) (st := []) (ctX12_must_ n0 hO.2.2.2.2.2.2.1 _ _) (Nat.le_of_ble_eq_true rfl) rfl rfl (Nat.le_of_ble_eq_true rfl) dX12_doings_78 (fun z78 => ?_)
    refine b_aload_n hO dX12_doings_81 1 rfl rfl ?_
    refine b_get hO flX12_84 kLY_0 (v := .ref (ad 12)) rfl dX12_doings_82 ?_
    refine b_iload_n hO dX12_doings_85 0 rfl rfl ?_
    refine b_aload_n hO dX12_doings_86 1 rfl rfl ?_
    refine b_iconst hO dX12_doings_87 ic_i_0 ?_
    refine b_bipush hO dX12_doings_88 ic_b_23 ?_
    refine b_callVI hO mdX12_number mvX12_number w1556 (ci := 12) rfl rfl (by decide) kLY_0 (As := [.int _, .int _]) (st := [.int _, .ref _]) (ctX12_number n0 hO.2.2.2.2.2.2.1 _ _ _) (Nat.le_of_ble_eq_true rfl) rfl rfl (Nat.le_of_ble_eq_true rfl) dX12_doings_90 (fun z90 => ?_)
    refine b_iast hO kLY_12 (n := 12) rfl dX12_doings_93 ?_
    refine b_bnd (fun M93 => ?_)
    refine b_aload_n hO dX12_doings_94 1 rfl rfl ?_
    refine b_get hO flX12_36 kLY_0 (v := .int (gI _ 8)) rfl dX12_doings_95 ?_
    refine b_if_ne hO dX12_doings_98 (tgt := 114) (by decide) ?_ ?_
    · exact b_vret hO dX12_doings_114
    · refine b_aload_n hO dX12_doings_101 1 rfl rfl ?_
      refine b_get hO flX12_78 kLY_0 (v := .ref (ad 10)) rfl dX12_doings_102 ?_
      refine b_aload_n hO dX12_doings_105 1 rfl rfl ?_
      refine b_get hO flX12_115 kLY_0 (v := .int (gI _ 34)) rfl dX12_doings_106 ?_
      refine b_dup2 hO dX12_doings_109 rfl rfl ?_
      refine b_iald hO kLY_10 (n := 2) rfl dX12_doings_110 ?_
      refine b_iconst hO dX12_doings_111 ic_i_1 ?_
      refine b_iadd hO dX12_doings_112 ?_
      refine b_iast hO kLY_10 (n := 2) rfl dX12_doings_113 ?_
      exact b_vret hO dX12_doings_114
  · exact b_vret hO dX12_doings_26
theorem tfX12_doings (n0 : Nat) (hO : OKc p (rmL 4) s m args meth c LY D cy ad cX12_doings RX12 2 4 none) (M : Mem) : BL p l e (rmL 4) s m args below meth c LY D cy ad 2 (QV LY D cy ad) 0 [(0, .ref (ad 0))] [] M (fX12_doings n0 M) := by
  unfold fX12_doings
  refine b_aload_n hO dX12_doings_0 0 rfl rfl ?_
  refine b_aload_n hO dX12_doings_1 0 rfl rfl ?_
  refine b_get hO flX12_78 kLY_0 (v := .ref (ad 10)) rfl dX12_doings_2 ?_
  refine b_aload_n hO dX12_doings_5 0 rfl rfl ?_
  refine b_get hO flX12_115 kLY_0 (v := .int (gI _ 34)) rfl dX12_doings_6 ?_
  refine b_iald hO kLY_10 (n := 2) rfl dX12_doings_9 ?_
  refine b_bipush hO dX12_doings_10 ic_b_6 ?_
  refine b_icmp_ne hO dX12_doings_12 (tgt := 19) (by decide) ?_ ?_
  · refine b_iconst hO dX12_doings_19 ic_i_0 ?_
    exact tfX12_doings_20 n0 hO _ _
  · refine b_iconst hO dX12_doings_15 ic_i_1 ?_
    refine b_goto hO dX12_doings_16 (tgt := 20) (by decide) ?_
    exact tfX12_doings_20 n0 hO _ _
theorem ctX12_doings (n0 : Nat) (hI : Inj LY ad) (M : Mem) : CT l LY D cy ad yX12_doings cX12_doings 2 none 4 (QV LY D cy ad) [.ref (ad 0)] M (fX12_doings n0 M) :=
  CT.mk LYok hI (by decide) (Nat.le_of_ble_eq_true rfl) (fun hO => tfX12_doings n0 hO M)
/-! X12_reading -/
def fX12_reading_67 (n0 : Nat) (x2 : Int32) (u1 : Int32) (M : Mem) : Option (Mem) :=
  (fX12_reads n0 u1 M).bind fun z67 =>
  if oob x2 4 then none else
  some (sA z67 15 (Int32.toNatClampNeg x2) (gI z67 33))
def fX12_reading_43 (n0 : Nat) (x1 : Int32) (x2 : Int32) (u1 : Int32) (M : Mem) : Option (Mem) :=
  if u1 = 0 ∨ u1 = 1 then
  bnd (sI M 35 u1) fun M43 =>
  if oob x2 4 then none else
  bnd (sA M43 14 (Int32.toNatClampNeg x2) (gI M43 33)) fun M55 =>
  if x1 = (1 : Int32) then
    fX12_reading_67 n0 x2 (1 : Int32) M55
  else
    fX12_reading_67 n0 x2 (0 : Int32) M55
  else none
def fX12_reading_25 (n0 : Nat) (x1 : Int32) (x2 : Int32) (u1 : Int32) (M : Mem) : Option (Mem) :=
  (fX12_counts n0 u1 M).bind fun z25 =>
  if z25.1 = 0 then
    some z25.2
  else
    if x1 = (1 : Int32) then
      fX12_reading_43 n0 x1 x2 (1 : Int32) z25.2
    else
      fX12_reading_43 n0 x1 x2 (0 : Int32) z25.2
def fX12_reading (n0 : Nat) (x1 : Int32) (M : Mem) : Option (Mem) :=
  bnd (((2 : Int32) * (gI M 34)) + x1) fun x2_8 =>
  if oob x2_8 4 then none else
  if (gA M 14 (Int32.toNatClampNeg x2_8)) = (-1 : Int32) then
    fX12_reading_25 n0 x1 x2_8 (0 : Int32) M
  else
    fX12_reading_25 n0 x1 x2_8 (1 : Int32) M
theorem tfX12_reading_67 (n0 : Nat) (hO : OKc p (rmL 6) s m args meth c LY D cy ad cX12_reading RX12 3 6 none) (x2 : Int32) (u1 : Int32) (M : Mem) : BL p l e (rmL 6) s m args below meth c LY D cy ad 3 (QV LY D cy ad) 67 [(0, .ref (ad 0)), (2, .int x2)] [.int u1, .ref (ad 0)] M (fX12_reading_67 n0 x2 u1 M) := by
  unfold fX12_reading_67
  refine b_callVV hO mdX12_reads mvX12_reads w1590 (ci := 12) rfl rfl (by decide) kLY_0 (As := [.int _]) (st := []) (ctX12_reads n0 hO.2.2.2.2.2.2.1 _ _) (Nat.le_of_ble_eq_true rfl) rfl rfl (Nat.le_of_ble_eq_true rfl) dX12_reading_67 (fun z67 => ?_)
  refine b_aload_n hO dX12_reading_70 0 rfl rfl ?_
  refine b_get hO flX12_93 kLY_0 (v := .ref (ad 15)) rfl dX12_reading_71 ?_
  refine b_iload_n hO dX12_reading_74 1 rfl rfl ?_
  refine b_aload_n hO dX12_reading_75 0 rfl rfl ?_
  refine b_get hO flX12_112 kLY_0 (v := .int (gI _ 33)) rfl dX12_reading_76 ?_
  refine b_iast hO kLY_15 (n := 4) rfl dX12_reading_79 ?_
  exact b_vret hO dX12_reading_80
theorem tfX12_reading_43 (n0 : Nat) (hO : OKc p (rmL 6) s m args meth c LY D cy ad cX12_reading RX12 3 6 none) (x1 : Int32) (x2 : Int32) (u1 : Int32) (M : Mem) : BL p l e (rmL 6) s m args below meth c LY D cy ad 3 (QV LY D cy ad) 43 [(0, .ref (ad 0)), (1, .int x1), (2, .int x2)] [.int u1, .ref (ad 0)] M (fX12_reading_43 n0 x1 x2 u1 M) := by
  unfold fX12_reading_43
  refine b_putZ hO flX12_118 kLY_0 rfl rfl rfl (id := 35) rfl dX12_reading_43 ?_
  refine b_bnd (fun M43 => ?_)
  refine b_aload_n hO dX12_reading_46 0 rfl rfl ?_
  refine b_get hO flX12_90 kLY_0 (v := .ref (ad 14)) rfl dX12_reading_47 ?_
  refine b_iload_n hO dX12_reading_50 2 rfl rfl ?_
  refine b_aload_n hO dX12_reading_51 0 rfl rfl ?_
  refine b_get hO flX12_112 kLY_0 (v := .int (gI _ 33)) rfl dX12_reading_52 ?_
  refine b_iast hO kLY_14 (n := 4) rfl dX12_reading_55 ?_
  refine b_bnd (fun M55 => ?_)
  refine b_aload_n hO dX12_reading_56 0 rfl rfl ?_
  refine b_iload_n hO dX12_reading_57 1 rfl rfl ?_
  refine b_iconst hO dX12_reading_58 ic_i_1 ?_
  refine b_icmp_ne hO dX12_reading_59 (tgt := 66) (by decide) ?_ ?_
  · refine b_iconst hO dX12_reading_66 ic_i_0 ?_
    refine b_sub [0, 2] rfl ?_
    exact tfX12_reading_67 n0 hO _ _ _
  · refine b_iconst hO dX12_reading_62 ic_i_1 ?_
    refine b_goto hO dX12_reading_63 (tgt := 67) (by decide) ?_
    refine b_sub [0, 2] rfl ?_
    exact tfX12_reading_67 n0 hO _ _ _
theorem tfX12_reading_25 (n0 : Nat) (hO : OKc p (rmL 6) s m args meth c LY D cy ad cX12_reading RX12 3 6 none) (x1 : Int32) (x2 : Int32) (u1 : Int32) (M : Mem) : BL p l e (rmL 6) s m args below meth c LY D cy ad 3 (QV LY D cy ad) 25 [(0, .ref (ad 0)), (1, .int x1), (2, .int x2)] [.int u1, .ref (ad 0)] M (fX12_reading_25 n0 x1 x2 u1 M) := by
  unfold fX12_reading_25
  refine b_callVI hO mdX12_counts mvX12_counts w1504 (ci := 12) rfl rfl (by decide) kLY_0 (As := [.int _]) (st := []) (ctX12_counts n0 hO.2.2.2.2.2.2.1 _ _) (Nat.le_of_ble_eq_true rfl) rfl rfl (Nat.le_of_ble_eq_true rfl) dX12_reading_25 (fun z25 => ?_)
  refine b_if_ne hO dX12_reading_28 (tgt := 32) (by decide) ?_ ?_
  · refine b_aload_n hO dX12_reading_32 0 rfl rfl ?_
    refine b_iload_n hO dX12_reading_33 1 rfl rfl ?_
    refine b_iconst hO dX12_reading_34 ic_i_1 ?_
    refine b_icmp_ne hO dX12_reading_35 (tgt := 42) (by decide) ?_ ?_
    · refine b_iconst hO dX12_reading_42 ic_i_0 ?_
      exact tfX12_reading_43 n0 hO _ _ _ _
    · refine b_iconst hO dX12_reading_38 ic_i_1 ?_
      refine b_goto hO dX12_reading_39 (tgt := 43) (by decide) ?_
      exact tfX12_reading_43 n0 hO _ _ _ _
  · exact b_vret hO dX12_reading_31
theorem tfX12_reading (n0 : Nat) (hO : OKc p (rmL 6) s m args meth c LY D cy ad cX12_reading RX12 3 6 none) (x1 : Int32) (M : Mem) : BL p l e (rmL 6) s m args below meth c LY D cy ad 3 (QV LY D cy ad) 0 [(0, .ref (ad 0)), (1, .int x1)] [] M (fX12_reading n0 x1 M) := by
  unfold fX12_reading
  refine b_iconst hO dX12_reading_0 ic_i_2 ?_
  refine b_aload_n hO dX12_reading_1 0 rfl rfl ?_
  refine b_get hO flX12_115 kLY_0 (v := .int (gI _ 34)) rfl dX12_reading_2 ?_
  refine b_imul hO dX12_reading_5 ?_
  refine b_iload_n hO dX12_reading_6 1 rfl rfl ?_
  refine b_iadd hO dX12_reading_7 ?_
  refine b_topI (fun x2_8 => ?_)
  refine b_istore_n hO dX12_reading_8 rfl (by decide) (lv' := [(2, .int _), (0, .ref _), (1, .int _)]) rfl ?_
  refine b_aload_n hO dX12_reading_9 1 rfl rfl ?_
  refine b_aload_n hO dX12_reading_10 1 rfl rfl ?_
  refine b_get hO flX12_90 kLY_0 (v := .ref (ad 14)) rfl dX12_reading_11 ?_
  refine b_iload_n hO dX12_reading_14 0 rfl rfl ?_
  refine b_iald hO kLY_14 (n := 4) rfl dX12_reading_15 ?_
  refine b_iconst hO dX12_reading_16 ic_i_m1 ?_
  refine b_icmp_eq hO dX12_reading_17 (tgt := 24) (by decide) ?_ ?_
  · refine b_iconst hO dX12_reading_24 ic_i_0 ?_
    refine b_sub [1, 2, 0] rfl ?_
    exact tfX12_reading_25 n0 hO _ _ _ _
  · refine b_iconst hO dX12_reading_20 ic_i_1 ?_
    refine b_goto hO dX12_reading_21 (tgt := 25) (by decide) ?_
    refine b_sub [1, 2, 0] rfl ?_
    exact tfX12_reading_25 n0 hO _ _ _ _
theorem ctX12_reading (n0 : Nat) (hI : Inj LY ad) (x1 : Int32) (M : Mem) : CT l LY D cy ad yX12_reading cX12_reading 3 none 6 (QV LY D cy ad) [.ref (ad 0), .int x1] M (fX12_reading n0 x1 M) :=
  CT.mk LYok hI (by decide) (Nat.le_of_ble_eq_true rfl) (fun hO => tfX12_reading n0 hO x1 M)
/-! X12_passing -/
def fX12_passing (n0 : Nat) (M : Mem) : Option (Mem) :=
  (fX12_counts n0 (0 : Int32) M).bind fun z2 =>
  if z2.1 = 0 then
    some z2.2
  else
    (fX12_number n0 (0 : Int32) (100 : Int32) z2.2).bind fun z13 =>
    if (gI z13.2 8) = 0 then
      if oob (gI z13.2 34) 2 then none else
      some (sA z13.2 13 (Int32.toNatClampNeg (gI z13.2 34)) z13.1)
    else
      some z13.2
theorem tfX12_passing (n0 : Nat) (hO : OKc p (rmL 4) s m args meth c LY D cy ad cX12_passing RX12 2 4 none) (M : Mem) : BL p l e (rmL 4) s m args below meth c LY D cy ad 2 (QV LY D cy ad) 0 [(0, .ref (ad 0))] [] M (fX12_passing n0 M) := by
  unfold fX12_passing
  refine b_aload_n hO dX12_passing_0 0 rfl rfl ?_
  refine b_iconst hO dX12_passing_1 ic_i_0 ?_
  refine b_callVI hO mdX12_counts mvX12_counts w1504 (ci := 12) rfl rfl (by decide) kLY_0 (As := [.int _]) (st := []) (ctX12_counts n0 hO.2.2.2.2.2.2.1 _ _) (Nat.le_of_ble_eq_true rfl) rfl rfl (Nat.le_of_ble_eq_true rfl) dX12_passing_2 (fun z2 => ?_)
  refine b_if_ne hO dX12_passing_5 (tgt := 9) (by decide) ?_ ?_
  · refine b_aload_n hO dX12_passing_9 0 rfl rfl ?_
    refine b_iconst hO dX12_passing_10 ic_i_0 ?_
    refine b_bipush hO dX12_passing_11 ic_b_100 ?_
    refine b_callVI hO mdX12_number mvX12_number w1556 (ci := 12) rfl rfl (by decide) kLY_0 (As := [.int _, .int _]) (st := []) (ctX12_number n0 hO.2.2.2.2.2.2.1 _ _ _) (Nat.le_of_ble_eq_true rfl) rfl rfl (Nat.le_of_ble_eq_true rfl) dX12_passing_13 (fun z13 => ?_)
    refine b_istore_n hO dX12_passing_16 rfl (by decide) (lv' := [(1, .int _), (0, .ref _)]) rfl ?_
    refine b_aload_n hO dX12_passing_17 1 rfl rfl ?_
    refine b_get hO flX12_36 kLY_0 (v := .int (gI _ 8)) rfl dX12_passing_18 ?_
    refine b_if_ne hO dX12_passing_21 (tgt := 34) (by decide) ?_ ?_
    · exact b_vret hO dX12_passing_34
    · refine b_aload_n hO dX12_passing_24 1 rfl rfl ?_
      refine b_get hO flX12_87 kLY_0 (v := .ref (ad 13)) rfl dX12_passing_25 ?_
      refine b_aload_n hO dX12_passing_28 1 rfl rfl ?_
      refine b_get hO flX12_115 kLY_0 (v := .int (gI _ 34)) rfl dX12_passing_29 ?_
      refine b_iload_n hO dX12_passing_32 0 rfl rfl ?_
      refine b_iast hO kLY_13 (n := 2) rfl dX12_passing_33 ?_
      exact b_vret hO dX12_passing_34
  · exact b_vret hO dX12_passing_8
theorem ctX12_passing (n0 : Nat) (hI : Inj LY ad) (M : Mem) : CT l LY D cy ad yX12_passing cX12_passing 2 none 4 (QV LY D cy ad) [.ref (ad 0)] M (fX12_passing n0 M) :=
  CT.mk LYok hI (by decide) (Nat.le_of_ble_eq_true rfl) (fun hO => tfX12_passing n0 hO M)
/-! X12_statement -/
def fX12_statement (n0 : Nat) (M : Mem) : Option (Mem) :=
  (fX12_lex n0 M).bind fun z1 =>
  if (gI z1 8) ≤ 0 then
    (fX12_isWord n0 (499967946343 : Int64) z1).bind fun z16 =>
    if z16.1 = 0 then
      (fX12_isWord n0 (109330312357234 : Int64) z16.2).bind fun z33 =>
      if z33.1 = 0 then
        (fX12_isWord n0 (1919902052 : Int64) z33.2).bind fun z50 =>
        if z50.1 = 0 then
          (fX12_isWord n0 (1885432941 : Int64) z50.2).bind fun z67 =>
          if z67.1 = 0 then
            (fX12_isWord n0 (431365910119 : Int64) z67.2).bind fun z84 =>
            if z84.1 = 0 then
              (fX12_isWord n0 (1935767923 : Int64) z84.2).bind fun z101 =>
              if z101.1 = 0 then
                (fX12_isWord n0 (1735356005 : Int64) z101.2).bind fun z119 =>
                if z119.1 = 0 then
                  (fX12_isWord n0 (1885434739 : Int64) z119.2).bind fun z137 =>
                  if z137.1 = 0 then
                    (fX12_blame n0 (1 : Int32) (gI z137.2 4) z137.2).bind fun z156 =>
                    some z156
                  else
                    (fX12_passing n0 z137.2).bind fun z144 =>
                    some z144
                else
                  (fX12_reading n0 (1 : Int32) z119.2).bind fun z127 =>
                  some z127
              else
                (fX12_reading n0 (0 : Int32) z101.2).bind fun z109 =>
                some z109
            else
              (fX12_doings n0 z84.2).bind fun z91 =>
              some z91
          else
            (fX12_palming n0 z67.2).bind fun z74 =>
            some z74
        else
          (fX12_roading n0 z50.2).bind fun z57 =>
          some z57
      else
        (fX12_cornering n0 z33.2).bind fun z40 =>
        some z40
    else
      (fX12_thinging n0 z16.2).bind fun z23 =>
      some z23
  else
    some z1
theorem tfX12_statement (n0 : Nat) (hO : OKc p (rmL 7) s m args meth c LY D cy ad cX12_statement RX12 1 7 none) (M : Mem) : BL p l e (rmL 7) s m args below meth c LY D cy ad 1 (QV LY D cy ad) 0 [(0, .ref (ad 0))] [] M (fX12_statement n0 M) := by
  unfold fX12_statement
  refine b_aload_n hO dX12_statement_0 0 rfl rfl ?_
  refine b_callVV hO mdX12_lex mvX12_lex w1487 (ci := 12) rfl rfl (by decide) kLY_0 (As := []) (st := []) (ctX12_lex n0 hO.2.2.2.2.2.2.1 _) (Nat.le_of_ble_eq_true rfl) rfl rfl (Nat.le_of_ble_eq_true rfl) dX12_statement_1 (fun z1 => ?_)
  refine b_aload_n hO dX12_statement_4 0 rfl rfl ?_
  refine b_get hO flX12_36 kLY_0 (v := .int (gI _ 8)) rfl dX12_statement_5 ?_
  refine b_if_le hO dX12_statement_8 (tgt := 12) (by decide) ?_ ?_
  · refine b_aload_n hO dX12_statement_12 0 rfl rfl ?_
    refine b_ldc2 hO w1495 dX12_statement_13 ?_
    refine b_callVI hO mdX12_isWord mvX12_isWord w1496 (ci := 12) rfl rfl (by decide) kLY_0 (As := [.long _]) (st := []) (ctX12_isWord n0 hO.2.2.2.2.2.2.1 _ _) (Nat.le_of_ble_eq_true rfl) rfl rfl (Nat.le_of_ble_eq_true rfl) dX12_statement_16 (fun z16 => ?_)
    refine b_if_eq hO dX12_statement_19 (tgt := 29) (by decide) ?_ ?_
    · refine b_aload_n hO dX12_statement_29 0 rfl rfl ?_
      refine b_ldc2 hO w1518 dX12_statement_30 ?_
      refine b_callVI hO mdX12_isWord mvX12_isWord w1496 (ci := 12) rfl rfl (by decide) kLY_0 (As := [.long _]) (st := []) (ctX12_isWord n0 hO.2.2.2.2.2.2.1 _ _) (Nat.le_of_ble_eq_true rfl) rfl rfl (Nat.le_of_ble_eq_true rfl) dX12_statement_33 (fun z33 => ?_)
      refine b_if_eq hO dX12_statement_36 (tgt := 46) (by decide) ?_ ?_
      · refine b_aload_n hO dX12_statement_46 0 rfl rfl ?_
        refine b_ldc2 hO w1519 dX12_statement_47 ?_
        refine b_callVI hO mdX12_isWord mvX12_isWord w1496 (ci := 12) rfl rfl (by decide) kLY_0 (As := [.long _]) (st := []) (ctX12_isWord n0 hO.2.2.2.2.2.2.1 _ _) (Nat.le_of_ble_eq_true rfl) rfl rfl (Nat.le_of_ble_eq_true rfl) dX12_statement_50 (fun z50 => ?_)
        refine b_if_eq hO dX12_statement_53 (tgt := 63) (by decide) ?_ ?_
        · refine b_aload_n hO dX12_statement_63 0 rfl rfl ?_
          refine b_ldc2 hO w1522 dX12_statement_64 ?_
          refine b_callVI hO mdX12_isWord mvX12_isWord w1496 (ci := 12) rfl rfl (by decide) kLY_0 (As := [.long _]) (st := []) (ctX12_isWord n0 hO.2.2.2.2.2.2.1 _ _) (Nat.le_of_ble_eq_true rfl) rfl rfl (Nat.le_of_ble_eq_true rfl) dX12_statement_67 (fun z67 => ?_)
          refine b_if_eq hO dX12_statement_70 (tgt := 80) (by decide) ?_ ?_
          · refine b_aload_n hO dX12_statement_80 0 rfl rfl ?_
            refine b_ldc2 hO w1524 dX12_statement_81 ?_
            refine b_callVI hO mdX12_isWord mvX12_isWord w1496 (ci := 12) rfl rfl (by decide) kLY_0 (As := [.long _]) (st := []) (ctX12_isWord n0 hO.2.2.2.2.2.2.1 _ _) (Nat.le_of_ble_eq_true rfl) rfl rfl (Nat.le_of_ble_eq_true rfl) dX12_statement_84 (fun z84 => ?_)
            refine b_if_eq hO dX12_statement_87 (tgt := 97) (by decide) ?_ ?_
            · refine b_aload_n hO dX12_statement_97 0 rfl rfl ?_
              refine b_ldc2 hO w1527 dX12_statement_98 ?_
              refine b_callVI hO mdX12_isWord mvX12_isWord w1496 (ci := 12) rfl rfl (by decide) kLY_0 (As := [.long _]) (st := []) (ctX12_isWord n0 hO.2.2.2.2.2.2.1 _ _) (Nat.le_of_ble_eq_true rfl) rfl rfl (Nat.le_of_ble_eq_true rfl) dX12_statement_101 (fun z101 => ?_)
              refine b_if_eq hO dX12_statement_104 (tgt := 115) (by decide) ?_ ?_
              · refine b_aload_n hO dX12_statement_115 0 rfl rfl ?_
                refine b_ldc2 hO w1528 dX12_statement_116 ?_
                refine b_callVI hO mdX12_isWord mvX12_isWord w1496 (ci := 12) rfl rfl (by decide) kLY_0 (As := [.long _]) (st := []) (ctX12_isWord n0 hO.2.2.2.2.2.2.1 _ _) (Nat.le_of_ble_eq_true rfl) rfl rfl (Nat.le_of_ble_eq_true rfl) dX12_statement_119 (fun z119 => ?_)
                refine b_if_eq hO dX12_statement_122 (tgt := 133) (by decide) ?_ ?_
                · refine b_aload_n hO dX12_statement_133 0 rfl rfl ?_
                  refine b_ldc2 hO w1529 dX12_statement_134 ?_
                  refine b_callVI hO mdX12_isWord mvX12_isWord w1496 (ci := 12) rfl rfl (by decide) kLY_0 (As := [.long _]) (st := []) (ctX12_isWord n0 hO.2.2.2.2.2.2.1 _ _) (Nat.le_of_ble_eq_true rfl) rfl rfl (Nat.le_of_ble_eq_true rfl) dX12_statement_137 (fun z137 => ?_)
                  refine b_if_eq hO dX12_statement_140 (tgt := 150) (by decide) ?_ ?_
                  · refine b_aload_n hO dX12_statement_150 0 rfl rfl ?_
                    refine b_iconst hO dX12_statement_151 ic_i_1 ?_
                    refine b_aload_n hO dX12_statement_152 0 rfl rfl ?_
                    refine b_get hO flX12_23 kLY_0 (v := .int (gI _ 4)) rfl dX12_statement_153 ?_
                    refine b_callVV hO mdX12_blame mvX12_blame w1491 (ci := 12) rfl rfl (by decide) kLY_0 (As := [.int _, .int _]) (st := []) (ctX12_blame n0 hO.2.2.2.2.2.2.1 _ _ _) (Nat.le_of_ble_eq_true rfl) rfl rfl (Nat.le_of_ble_eq_true rfl) dX12_statement_156 (fun z156 => ?_)
                    exact b_vret hO dX12_statement_159
                  · refine b_aload_n hO dX12_statement_143 0 rfl rfl ?_
                    refine b_callVV hO mdX12_passing mvX12_passing w1632 (ci := 12) rfl rfl (by decide) kLY_0 (As := []) (st := []) (ctX12_passing n0 hO.2.2.2.2.2.2.1 _) (Nat.le_of_ble_eq_true rfl) rfl rfl (Nat.le_of_ble_eq_true rfl) dX12_statement_144 (fun z144 => ?_)
                    refine b_goto hO dX12_statement_147 (tgt := 159) (by decide) ?_
                    exact b_vret hO dX12_statement_159
                · refine b_aload_n hO dX12_statement_125 0 rfl rfl ?_
                  refine b_iconst hO dX12_statement_126 ic_i_1 ?_
                  refine b_callVV hO mdX12_reading mvX12_reading w1586 (ci := 12) rfl rfl (by decide) kLY_0 (As := [.int _]) (st := []) (ctX12_reading n0 hO.2.2.2.2.2.2.1 _ _) (Nat.le_of_ble_eq_true rfl) rfl rfl (Nat.le_of_ble_eq_true rfl) dX12_statement_127 (fun z127 => ?_)
                  refine b_goto hO dX12_statement_130 (tgt := 159) (by decide) ?_
                  exact b_vret hO dX12_statement_159
              · refine b_aload_n hO dX12_statement_107 0 rfl rfl ?_
                refine b_iconst hO dX12_statement_108 ic_i_0 ?_
                refine b_callVV hO mdX12_reading mvX12_reading w1586 (ci := 12) rfl rfl (by decide) kLY_0 (As := [.int _]) (st := []) (ctX12_reading n0 hO.2.2.2.2.2.2.1 _ _) (Nat.le_of_ble_eq_true rfl) rfl rfl (Nat.le_of_ble_eq_true rfl) dX12_statement_109 (fun z109 => ?_)
                refine b_goto hO dX12_statement_112 (tgt := 159) (by decide) ?_
                exact b_vret hO dX12_statement_159
            · refine b_aload_n hO dX12_statement_90 0 rfl rfl ?_
              refine b_callVV hO mdX12_doings mvX12_doings w1582 (ci := 12) rfl rfl (by decide) kLY_0 (As := []) (st := []) (ctX12_doings n0 hO.2.2.2.2.2.2.1 _) (Nat.le_of_ble_eq_true rfl) rfl rfl (Nat.le_of_ble_eq_true rfl) dX12_statement_91 (fun z91 => ?_)
              refine b_goto hO dX12_statement_94 (tgt := 159) (by decide) ?_
              exact b_vret hO dX12_statement_159
          · refine b_aload_n hO dX12_statement_73 0 rfl rfl ?_
            refine b_callVV hO mdX12_palming mvX12_palming w1578 (ci := 12) rfl rfl (by decide) kLY_0 (As := []) (st := []) (ctX12_palming n0 hO.2.2.2.2.2.2.1 _) (Nat.le_of_ble_eq_true rfl) rfl rfl (Nat.le_of_ble_eq_true rfl) dX12_statement_74 (fun z74 => ?_)
            refine b_goto hO dX12_statement_77 (tgt := 159) (by decide) ?_
            exact b_vret hO dX12_statement_159
        · refine b_aload_n hO dX12_statement_56 0 rfl rfl ?_
          refine b_callVV hO mdX12_roading mvX12_roading w1567 (ci := 12) rfl rfl (by decide) kLY_0 (As := []) (st := []) (ctX12_roading n0 hO.2.2.2.2.2.2.1 _) (Nat.le_of_ble_eq_true rfl) rfl rfl (Nat.le_of_ble_eq_true rfl) dX12_statement_57 (fun z57 => ?_)
          refine b_goto hO dX12_statement_60 (tgt := 159) (by decide) ?_
          exact b_vret hO dX12_statement_159
      · refine b_aload_n hO dX12_statement_39 0 rfl rfl ?_
        refine b_callVV hO mdX12_cornering mvX12_cornering w1563 (ci := 12) rfl rfl (by decide) kLY_0 (As := []) (st := []) (ctX12_cornering n0 hO.2.2.2.2.2.2.1 _) (Nat.le_of_ble_eq_true rfl) rfl rfl (Nat.le_of_ble_eq_true rfl) dX12_statement_40 (fun z40 => ?_)
        refine b_goto hO dX12_statement_43 (tgt := 159) (by decide) ?_
        exact b_vret hO dX12_statement_159
    · refine b_aload_n hO dX12_statement_22 0 rfl rfl ?_
      refine b_callVV hO mdX12_thinging mvX12_thinging w1500 (ci := 12) rfl rfl (by decide) kLY_0 (As := []) (st := []) (ctX12_thinging n0 hO.2.2.2.2.2.2.1 _) (Nat.le_of_ble_eq_true rfl) rfl rfl (Nat.le_of_ble_eq_true rfl) dX12_statement_23 (fun z23 => ?_)
      refine b_goto hO dX12_statement_26 (tgt := 159) (by decide) ?_
      exact b_vret hO dX12_statement_159
  · exact b_vret hO dX12_statement_11
theorem ctX12_statement (n0 : Nat) (hI : Inj LY ad) (M : Mem) : CT l LY D cy ad yX12_statement cX12_statement 1 none 7 (QV LY D cy ad) [.ref (ad 0)] M (fX12_statement n0 M) :=
  CT.mk LYok hI (by decide) (Nat.le_of_ble_eq_true rfl) (fun hO => tfX12_statement n0 hO M)
/-! X12_finishes -/
def fX12_finishes_47 (n0 : Nat) (k17 : Int32 → Int32 → Mem → Option (Mem)) (x1 : Int32) (x2 : Int32) (M : Mem) : Option (Mem) :=
  k17 x1 (x2 + (1 : Int32)) M
def fX12_finishes_83 (n0 : Nat) (M : Mem) : Option (Mem) :=
  (fX12_must n0 (59 : Int32) M).bind fun z86 =>
  some z86
def fX12_finishes_53 (n0 : Nat) (x1 : Int32) (x2 : Int32) (M : Mem) : Option (Mem) :=
  (fX12_isSign n0 (59 : Int32) M).bind fun z56 =>
  if z56.1 = 0 then
    fX12_finishes_83 n0 z56.2
  else
    if x1 = (80 : Int32) then
      if (gI z56.2 2) ≤ x2 then
        fX12_finishes_83 n0 z56.2
      else
        (fX12_blame n0 (6 : Int32) x2 z56.2).bind fun z80 =>
        fX12_finishes_83 n0 z80
    else
      fX12_finishes_83 n0 z56.2
def bX12_finishes_17 (n0 : Nat) (k17 : Int32 → Int32 → Mem → Option (Mem)) (x1 : Int32) (x2 : Int32) (M : Mem) : Option (Mem) :=
  if (gI M 2) ≤ x2 then
    fX12_finishes_53 n0 x1 x2 M
  else
    if oob x2 1800 then none else
    if (gA M 1 (Int32.toNatClampNeg x2)) = (32 : Int32) then
      fX12_finishes_47 n0 k17 x1 x2 M
    else
      if oob x2 1800 then none else
      if (gA M 1 (Int32.toNatClampNeg x2)) = (10 : Int32) then
        fX12_finishes_47 n0 k17 x1 x2 M
      else
        fX12_finishes_53 n0 x1 x2 M
def fX12_finishes_17 (n0 : Nat) : Int32 → Int32 → Mem → Option (Mem) := loopN (bX12_finishes_17 n0) (fun _ _ _ => none) n0
def fX12_finishes (n0 : Nat) (x1 : Int32) (M : Mem) : Option (Mem) :=
  (fX12_lex n0 M).bind fun z1 =>
  if (gI z1 8) ≤ 0 then
    bnd (gI z1 5) fun x2_16 =>
    fX12_finishes_17 n0 x1 x2_16 z1
  else
    some z1
theorem tfX12_finishes_47 (n0 : Nat) (hO : OKc p (rmL 4) s m args meth c LY D cy ad cX12_finishes RX12 3 4 none) (k17 : Int32 → Int32 → Mem → Option (Mem)) (hk17 : ∀ (x1 : Int32) (x2 : Int32) (M : Mem), BL p l e (rmL 4) s m args below meth c LY D cy ad 3 (QV LY D cy ad) 17 [(0, .ref (ad 0)), (1, .int x1), (2, .int x2)] [] M (k17 x1 x2 M)) (x1 : Int32) (x2 : Int32) (M : Mem) : BL p l e (rmL 4) s m args below meth c LY D cy ad 3 (QV LY D cy ad) 47 [(0, .ref (ad 0)), (1, .int x1), (2, .int x2)] [] M (fX12_finishes_47 n0 k17 x1 x2 M) := by
  unfold fX12_finishes_47
  refine b_iinc hO dX12_finishes_47 2 rfl ic_i_1 (by decide) (lv' := [(2, .int _), (0, .ref _), (1, .int _)]) rfl ?_
  refine b_goto hO dX12_finishes_50 (tgt := 17) (by decide) ?_
  refine b_sub [1, 2, 0] rfl ?_
  exact hk17 _ _ _
theorem tfX12_finishes_83 (n0 : Nat) (hO : OKc p (rmL 4) s m args meth c LY D cy ad cX12_finishes RX12 3 4 none) (M : Mem) : BL p l e (rmL 4) s m args below meth c LY D cy ad 3 (QV LY D cy ad) 83 [(0, .ref (ad 0))] [] M (fX12_finishes_83 n0 M) := by
  unfold fX12_finishes_83
  refine b_aload_n hO dX12_finishes_83 0 rfl rfl ?_
  refine b_bipush hO dX12_finishes_84 ic_b_59 ?_
  refine b_callVV hO mdX12_must mvX12_must w1640 (ci := 12) rfl rfl (by decide) kLY_0 (As := [.int _]) (st := []) (ctX12_must n0 hO.2.2.2.2.2.2.1 _ _) (Nat.le_of_ble_eq_true rfl) rfl rfl (Nat.le_of_ble_eq_true rfl) dX12_finishes_86 (fun z86 => ?_)
  exact b_vret hO dX12_finishes_89
theorem tfX12_finishes_53 (n0 : Nat) (hO : OKc p (rmL 4) s m args meth c LY D cy ad cX12_finishes RX12 3 4 none) (x1 : Int32) (x2 : Int32) (M : Mem) : BL p l e (rmL 4) s m args below meth c LY D cy ad 3 (QV LY D cy ad) 53 [(0, .ref (ad 0)), (1, .int x1), (2, .int x2)] [] M (fX12_finishes_53 n0 x1 x2 M) := by
  unfold fX12_finishes_53
  refine b_aload_n hO dX12_finishes_53 0 rfl rfl ?_
  refine b_bipush hO dX12_finishes_54 ic_b_59 ?_
  refine b_callVI hO mdX12_isSign mvX12_isSign w1609 (ci := 12) rfl rfl (by decide) kLY_0 (As := [.int _]) (st := []) (ctX12_isSign n0 hO.2.2.2.2.2.2.1 _ _) (Nat.le_of_ble_eq_true rfl) rfl rfl (Nat.le_of_ble_eq_true rfl) dX12_finishes_56 (fun z56 => ?_)
  refine b_if_eq hO dX12_finishes_59 (tgt := 83) (by decide) ?_ ?_
  · refine b_sub [0] rfl ?_
    exact tfX12_finishes_83 n0 hO _
  · refine b_iload_n hO dX12_finishes_62 1 rfl rfl ?_
    refine b_bipush hO dX12_finishes_63 ic_b_80 ?_
    refine b_icmp_ne hO dX12_finishes_65 (tgt := 83) (by decide) ?_ ?_
    · refine b_sub [0] rfl ?_
      exact tfX12_finishes_83 n0 hO _
    · refine b_iload_n hO dX12_finishes_68 2 rfl rfl ?_
      refine b_aload_n hO dX12_finishes_69 0 rfl rfl ?_
      refine b_get hO flX12_17 kLY_0 (v := .int (gI _ 2)) rfl dX12_finishes_70 ?_
      refine b_icmp_ge hO dX12_finishes_73 (tgt := 83) (by decide) ?_ ?_
      · refine b_sub [0] rfl ?_
        exact tfX12_finishes_83 n0 hO _
      · refine b_aload_n hO dX12_finishes_76 0 rfl rfl ?_
        refine b_bipush hO dX12_finishes_77 ic_b_6 ?_
        refine b_iload_n hO dX12_finishes_79 2 rfl rfl ?_
        refine b_callVV hO mdX12_blame mvX12_blame w1491 (ci := 12) rfl rfl (by decide) kLY_0 (As := [.int _, .int _]) (st := []) (ctX12_blame n0 hO.2.2.2.2.2.2.1 _ _ _) (Nat.le_of_ble_eq_true rfl) rfl rfl (Nat.le_of_ble_eq_true rfl) dX12_finishes_80 (fun z80 => ?_)
        refine b_sub [0] rfl ?_
        exact tfX12_finishes_83 n0 hO _
theorem tbX12_finishes_17 (n0 : Nat) (hO : OKc p (rmL 4) s m args meth c LY D cy ad cX12_finishes RX12 3 4 none) (k17 : Int32 → Int32 → Mem → Option (Mem)) (hk17 : ∀ (x1 : Int32) (x2 : Int32) (M : Mem), BL p l e (rmL 4) s m args below meth c LY D cy ad 3 (QV LY D cy ad) 17 [(0, .ref (ad 0)), (1, .int x1), (2, .int x2)] [] M (k17 x1 x2 M)) (x1 : Int32) (x2 : Int32) (M : Mem) : BL p l e (rmL 4) s m args below meth c LY D cy ad 3 (QV LY D cy ad) 17 [(0, .ref (ad 0)), (1, .int x1), (2, .int x2)] [] M (bX12_finishes_17 n0 k17 x1 x2 M) := by
  unfold bX12_finishes_17
  refine b_iload_n hO dX12_finishes_17 2 rfl rfl ?_
  refine b_aload_n hO dX12_finishes_18 0 rfl rfl ?_
  refine b_get hO flX12_17 kLY_0 (v := .int (gI _ 2)) rfl dX12_finishes_19 ?_
  refine b_icmp_ge hO dX12_finishes_22 (tgt := 53) (by decide) ?_ ?_
  · exact tfX12_finishes_53 n0 hO _ _ _
  · refine b_aload_n hO dX12_finishes_25 0 rfl rfl ?_
    refine b_get hO flX12_7 kLY_0 (v := .ref (ad 1)) rfl dX12_finishes_26 ?_
    refine b_iload_n hO dX12_finishes_29 2 rfl rfl ?_
    refine b_iald hO kLY_1 (n := 1800) rfl dX12_finishes_30 ?_
    refine b_bipush hO dX12_finishes_31 ic_b_32 ?_
    refine b_icmp_eq hO dX12_finishes_33 (tgt := 47) (by decide) ?_ ?_
    · exact tfX12_finishes_47 n0 hO k17 hk17 _ _ _
    · refine b_aload_n hO dX12_finishes_36 0 rfl rfl ?_
      refine b_get hO flX12_7 kLY_0 (v := .ref (ad 1)) rfl dX12_finishes_37 ?_
      refine b_iload_n hO dX12_finishes_40 2 rfl rfl ?_
      refine b_iald hO kLY_1 (n := 1800) rfl dX12_finishes_41 ?_
      refine b_bipush hO dX12_finishes_42 ic_b_10 ?_
      refine b_icmp_ne hO dX12_finishes_44 (tgt := 53) (by decide) ?_ ?_
      · exact tfX12_finishes_53 n0 hO _ _ _
      · exact tfX12_finishes_47 n0 hO k17 hk17 _ _ _
theorem lX12_finishes_17 (n0 : Nat) (hO : OKc p (rmL 4) s m args meth c LY D cy ad cX12_finishes RX12 3 4 none) : ∀ (w : Nat) (x1 : Int32) (x2 : Int32) (M : Mem), BL p l e (rmL 4) s m args below meth c LY D cy ad 3 (QV LY D cy ad) 17 [(0, .ref (ad 0)), (1, .int x1), (2, .int x2)] [] M (loopN (bX12_finishes_17 n0) (fun _ _ _ => none) w x1 x2 M) := by
  intro w
  induction w with
  | zero =>
    intros
    exact b_none
  | succ w ih =>
    intro x1 x2 M
    exact tbX12_finishes_17 n0 hO _ ih x1 x2 M
theorem tfX12_finishes_17 (n0 : Nat) (hO : OKc p (rmL 4) s m args meth c LY D cy ad cX12_finishes RX12 3 4 none) (x1 : Int32) (x2 : Int32) (M : Mem) : BL p l e (rmL 4) s m args below meth c LY D cy ad 3 (QV LY D cy ad) 17 [(0, .ref (ad 0)), (1, .int x1), (2, .int x2)] [] M (fX12_finishes_17 n0 x1 x2 M) := lX12_finishes_17 n0 hO n0 x1 x2 M
theorem tfX12_finishes (n0 : Nat) (hO : OKc p (rmL 4) s m args meth c LY D cy ad cX12_finishes RX12 3 4 none) (x1 : Int32) (M : Mem) : BL p l e (rmL 4) s m args below meth c LY D cy ad 3 (QV LY D cy ad) 0 [(0, .ref (ad 0)), (1, .int x1)] [] M (fX12_finishes n0 x1 M) := by
  unfold fX12_finishes
  refine b_aload_n hO dX12_finishes_0 0 rfl rfl ?_
  refine b_callVV hO mdX12_lex mvX12_lex w1487 (ci := 12) rfl rfl (by decide) kLY_0 (As := []) (st := []) (ctX12_lex n0 hO.2.2.2.2.2.2.1 _) (Nat.le_of_ble_eq_true rfl) rfl rfl (Nat.le_of_ble_eq_true rfl) dX12_finishes_1 (fun z1 => ?_)
  refine b_aload_n hO dX12_finishes_4 0 rfl rfl ?_
  refine b_get hO flX12_36 kLY_0 (v := .int (gI _ 8)) rfl dX12_finishes_5 ?_
  refine b_if_le hO dX12_finishes_8 (tgt := 12) (by decide) ?_ ?_
  · refine b_aload_n hO dX12_finishes_12 0 rfl rfl ?_
    refine b_get hO flX12_26 kLY_0 (v := .int (gI _ 5)) rfl dX12_finishes_13 ?_
    refine b_topI (fun x2_16 => ?_)
    refine b_istore_n hO dX12_finishes_16 rfl (by decide) (lv' := [(2, .int _), (0, .ref _), (1, .int _)]) rfl ?_
    refine b_sub [1, 2, 0] rfl ?_
    exact tfX12_finishes_17 n0 hO _ _ _
  · exact b_vret hO dX12_finishes_11
theorem ctX12_finishes (n0 : Nat) (hI : Inj LY ad) (x1 : Int32) (M : Mem) : CT l LY D cy ad yX12_finishes cX12_finishes 3 none 4 (QV LY D cy ad) [.ref (ad 0), .int x1] M (fX12_finishes n0 x1 M) :=
  CT.mk LYok hI (by decide) (Nat.le_of_ble_eq_true rfl) (fun hO => tfX12_finishes n0 hO x1 M)
/-! X12_measures -/
def fX12_measures_76 (n0 : Nat) (k2 : Int32 → Mem → Option (Mem)) (k9 : Int32 → Int32 → Mem → Option (Mem)) (x1 : Int32) (x2 : Int32) (u1 : Int32) (u2 : Int32) (M : Mem) : Option (Mem) :=
  if oob u1 50 then none else
  bnd (sA M 9 (Int32.toNatClampNeg u1) u2) fun M76 =>
  k9 x1 (x2 + (1 : Int32)) M76
def bX12_measures_9 (n0 : Nat) (k2 : Int32 → Mem → Option (Mem)) (k9 : Int32 → Int32 → Mem → Option (Mem)) (x1 : Int32) (x2 : Int32) (M : Mem) : Option (Mem) :=
  if (5 : Int32) ≤ x2 then
    k2 (x1 + (1 : Int32)) M
  else
    (fX12_at n0 (gI M 34) x1 x2 M).bind fun z25 =>
    if x1 = x2 then
      fX12_measures_76 n0 k2 k9 x1 x2 z25.1 (0 : Int32) z25.2
    else
      (fX12_at n0 (gI z25.2 34) x1 x2 z25.2).bind fun z48 =>
      if oob z48.1 50 then none else
      if (gA z48.2 8 (Int32.toNatClampNeg z48.1)) ≤ 0 then
        fX12_measures_76 n0 k2 k9 x1 x2 z25.1 (100000000 : Int32) z48.2
      else
        (fX12_at n0 (gI z48.2 34) x1 x2 z48.2).bind fun z66 =>
        if oob z66.1 50 then none else
        fX12_measures_76 n0 k2 k9 x1 x2 z25.1 (gA z66.2 8 (Int32.toNatClampNeg z66.1)) z66.2
def fX12_measures_9 (n0 : Nat) (k2 : Int32 → Mem → Option (Mem)) : Int32 → Int32 → Mem → Option (Mem) := loopN (bX12_measures_9 n0 k2) (fun _ _ _ => none) n0
def fX12_measures_180 (n0 : Nat) (k91 : Int32 → Mem → Option (Mem)) (k98 : Int32 → Int32 → Mem → Option (Mem)) (k105 : Int32 → Int32 → Int32 → Mem → Option (Mem)) (x1 : Int32) (x2 : Int32) (x3 : Int32) (M : Mem) : Option (Mem) :=
  k105 x1 x2 (x3 + (1 : Int32)) M
def bX12_measures_105 (n0 : Nat) (k91 : Int32 → Mem → Option (Mem)) (k98 : Int32 → Int32 → Mem → Option (Mem)) (k105 : Int32 → Int32 → Int32 → Mem → Option (Mem)) (x1 : Int32) (x2 : Int32) (x3 : Int32) (M : Mem) : Option (Mem) :=
  if (5 : Int32) ≤ x3 then
    k98 x1 (x2 + (1 : Int32)) M
  else
    (fX12_at n0 (gI M 34) x2 x1 M).bind fun z121 =>
    if oob z121.1 50 then none else
    (fX12_at n0 (gI z121.2 34) x1 x3 z121.2).bind fun z136 =>
    if oob z136.1 50 then none else
    bnd ((gA z121.2 9 (Int32.toNatClampNeg z121.1)) + (gA z136.2 9 (Int32.toNatClampNeg z136.1))) fun x4_141 =>
    (fX12_at n0 (gI z136.2 34) x2 x3 z136.2).bind fun z156 =>
    if oob z156.1 50 then none else
    if (gA z156.2 9 (Int32.toNatClampNeg z156.1)) ≤ x4_141 then
      fX12_measures_180 n0 k91 k98 k105 x1 x2 x3 z156.2
    else
      (fX12_at n0 (gI z156.2 34) x2 x3 z156.2).bind fun z174 =>
      if oob z174.1 50 then none else
      fX12_measures_180 n0 k91 k98 k105 x1 x2 x3 (sA z174.2 9 (Int32.toNatClampNeg z174.1) x4_141)
def fX12_measures_105 (n0 : Nat) (k91 : Int32 → Mem → Option (Mem)) (k98 : Int32 → Int32 → Mem → Option (Mem)) : Int32 → Int32 → Int32 → Mem → Option (Mem) := loopN (bX12_measures_105 n0 k91 k98) (fun _ _ _ _ => none) n0
def bX12_measures_98 (n0 : Nat) (k91 : Int32 → Mem → Option (Mem)) (k98 : Int32 → Int32 → Mem → Option (Mem)) (x1 : Int32) (x2 : Int32) (M : Mem) : Option (Mem) :=
  if (5 : Int32) ≤ x2 then
    k91 (x1 + (1 : Int32)) M
  else
    fX12_measures_105 n0 k91 k98 x1 x2 (0 : Int32) M
def fX12_measures_98 (n0 : Nat) (k91 : Int32 → Mem → Option (Mem)) : Int32 → Int32 → Mem → Option (Mem) := loopN (bX12_measures_98 n0 k91) (fun _ _ _ => none) n0
def bX12_measures_91 (n0 : Nat) (k91 : Int32 → Mem → Option (Mem)) (x1 : Int32) (M : Mem) : Option (Mem) :=
  if (5 : Int32) ≤ x1 then
    some M
  else
    fX12_measures_98 n0 k91 x1 (0 : Int32) M
def fX12_measures_91 (n0 : Nat) : Int32 → Mem → Option (Mem) := loopN (bX12_measures_91 n0) (fun _ _ => none) n0
def bX12_measures_2 (n0 : Nat) (k2 : Int32 → Mem → Option (Mem)) (x1 : Int32) (M : Mem) : Option (Mem) :=
  if (5 : Int32) ≤ x1 then
    fX12_measures_91 n0 (0 : Int32) M
  else
    fX12_measures_9 n0 k2 x1 (0 : Int32) M
def fX12_measures_2 (n0 : Nat) : Int32 → Mem → Option (Mem) := loopN (bX12_measures_2 n0) (fun _ _ => none) n0
def fX12_measures (n0 : Nat) (M : Mem) : Option (Mem) :=
  fX12_measures_2 n0 (0 : Int32) M
theorem tfX12_measures_76 (n0 : Nat) (hO : OKc p (rmL 2) s m args meth c LY D cy ad cX12_measures RX12 5 2 none) (k2 : Int32 → Mem → Option (Mem)) (k9 : Int32 → Int32 → Mem → Option (Mem)) (hk2 : ∀ (x1 : Int32) (M : Mem), BL p l e (rmL 2) s m args below meth c LY D cy ad 5 (QV LY D cy ad) 2 [(0, .ref (ad 0)), (1, .int x1)] [] M (k2 x1 M)) (hk9 : ∀ (x1 : Int32) (x2 : Int32) (M : Mem), BL p l e (rmL 2) s m args below meth c LY D cy ad 5 (QV LY D cy ad) 9 [(0, .ref (ad 0)), (1, .int x1), (2, .int x2)] [] M (k9 x1 x2 M)) (x1 : Int32) (x2 : Int32) (u1 : Int32) (u2 : Int32) (M : Mem) : BL p l e (rmL 2) s m args below meth c LY D cy ad 5 (QV LY D cy ad) 76 [(0, .ref (ad 0)), (1, .int x1), (2, .int x2)] [.int u2, .int u1, .ref (ad 9)] M (fX12_measures_76 n0 k2 k9 x1 x2 u1 u2 M) := by
  unfold fX12_measures_76
  refine b_iast hO kLY_9 (n := 50) rfl dX12_measures_76 ?_
  refine b_bnd (fun M76 => ?_)
  refine b_iinc hO dX12_measures_77 2 rfl ic_i_1 (by decide) (lv' := [(2, .int _), (0, .ref _), (1, .int _)]) rfl ?_
  refine b_goto hO dX12_measures_80 (tgt := 9) (by decide) ?_
  refine b_sub [1, 2, 0] rfl ?_
  exact hk9 _ _ _
theorem tbX12_measures_9 (n0 : Nat) (hO : OKc p (rmL 2) s m args meth c LY D cy ad cX12_measures RX12 5 2 none) (k2 : Int32 → Mem → Option (Mem)) (k9 : Int32 → Int32 → Mem → Option (Mem)) (hk2 : ∀ (x1 : Int32) (M : Mem), BL p l e (rmL 2) s m args below meth c LY D cy ad 5 (QV LY D cy ad) 2 [(0, .ref (ad 0)), (1, .int x1)] [] M (k2 x1 M)) (hk9 : ∀ (x1 : Int32) (x2 : Int32) (M : Mem), BL p l e (rmL 2) s m args below meth c LY D cy ad 5 (QV LY D cy ad) 9 [(0, .ref (ad 0)), (1, .int x1), (2, .int x2)] [] M (k9 x1 x2 M)) (x1 : Int32) (x2 : Int32) (M : Mem) : BL p l e (rmL 2) s m args below meth c LY D cy ad 5 (QV LY D cy ad) 9 [(0, .ref (ad 0)), (1, .int x1), (2, .int x2)] [] M (bX12_measures_9 n0 k2 k9 x1 x2 M) := by
  unfold bX12_measures_9
  refine b_iload_n hO dX12_measures_9 2 rfl rfl ?_
  refine b_iconst hO dX12_measures_10 ic_i_5 ?_
  refine b_icmp_ge hO dX12_measures_11 (tgt := 83) (by decide) ?_ ?_
  · refine b_iinc hO dX12_measures_83 1 rfl ic_i_1 (by decide) (lv' := [(1, .int _), (0, .ref _), (2, .int _)]) rfl ?_
    refine b_goto hO dX12_measures_86 (tgt := 2) (by decide) ?_
    refine b_sub [1, 0] rfl ?_
    exact hk2 _ _
  · refine b_aload_n hO dX12_measures_14 0 rfl rfl ?_
    refine b_get hO flX12_75 kLY_0 (v := .ref (ad 9)) rfl dX12_measures_15 ?_
    refine b_aload_n hO dX12_measures_18 0 rfl rfl ?_
    refine b_aload_n hO dX12_measures_19 0 rfl rfl ?_
    refine b_get hO flX12_115 kLY_0 (v := .int (gI _ 34)) rfl dX12_measures_20 ?_
    refine b_iload_n hO dX12_measures_23 1 rfl rfl ?_
    refine b_iload_n hO dX12_measures_24 2 rfl rfl ?_
    refine b_callVI hO mdX12_at mvX12_at w1469 (ci := 12) rfl rfl (by decide) kLY_0 (As := [.int _, .int _, .int _]) (st := [.ref _]) (ctX12_at n0 hO.2.2.2.2.2.2.1 _ _ _ _) (Nat.le_of_ble_eq_true rfl) rfl rfl (Nat.le_of_ble_eq_true rfl) dX12_measures_25 (fun z25 => ?_)
    refine b_iload_n hO dX12_measures_28 1 rfl rfl ?_
    refine b_iload_n hO dX12_measures_29 2 rfl rfl ?_
    refine b_icmp_ne hO dX12_measures_30 (tgt := 37) (by decide) ?_ ?_
    · refine b_aload_n hO dX12_measures_37 0 rfl rfl ?_
      refine b_get hO flX12_72 kLY_0 (v := .ref (ad 8)) rfl dX12_measures_38 ?_
      refine b_aload_n hO dX12_measures_41 0 rfl rfl ?_
      refine b_aload_n hO dX12_measures_42 0 rfl rfl ?_
      refine b_get hO flX12_115 kLY_0 (v := .int (gI _ 34)) rfl dX12_measures_43 ?_
      refine b_iload_n hO dX12_measures_46 1 rfl rfl ?_
      refine b_iload_n hO dX12_measures_47 2 rfl rfl ?_
      refine b_callVI hO mdX12_at mvX12_at w1469 (ci := 12) rfl rfl (by decide) kLY_0 (As := [.int _, .int _, .int _]) (st := [.ref _, .int _, .ref _]) (ctX12_at n0 hO.2.2.2.2.2.2.1 _ _ _ _) (Nat.le_of_ble_eq_true rfl) rfl rfl (Nat.le_of_ble_eq_true rfl) dX12_measures_48 (fun z48 => ?_)
      refine b_iald hO kLY_8 (n := 50) rfl dX12_measures_51 ?_
      refine b_if_le hO dX12_measures_52 (tgt := 73) (by decide) ?_ ?_
      · refine b_ldcw hO w1648 dX12_measures_73 ?_
        exact tfX12_measures_76 n0 hO k2 k9 hk2 hk9 _ _ _ _ _
      · refine b_aload_n hO dX12_measures_55 0 rfl rfl ?_
        refine b_get hO flX12_72 kLY_0 (v := .ref (ad 8)) rfl dX12_measures_56 ?_
        refine b_aload_n hO dX12_measures_59 0 rfl rfl ?_
        refine b_aload_n hO dX12_measures_60 0 rfl rfl ?_
        refine b_get hO flX12_115 kLY_0 (v := .int (gI _ 34)) rfl dX12_measures_61 ?_
        refine b_iload_n hO dX12_measures_64 1 rfl rfl ?_
        refine b_iload_n hO dX12_measures_65 2 rfl rfl ?_
        refine b_callVI hO mdX12_at mvX12_at w1469 (ci := 12) rfl rfl (by decide) kLY_0 (As := [.int _, .int _, .int _]) (st := [.ref _, .int _, .ref _]) (ctX12_at n0 hO.2.2.2.2.2.2.1 _ _ _ _) (Nat.le_of_ble_eq_true rfl) rfl rfl (Nat.le_of_ble_eq_true rfl) dX12_measures_66 (fun z66 => ?_)
        refine b_iald hO kLY_8 (n := 50) rfl dX12_measures_69 ?_
        refine b_goto hO dX12_measures_70 (tgt := 76) (by decide) ?_
        exact tfX12_measures_76 n0 hO k2 k9 hk2 hk9 _ _ _ _ _
    · refine b_iconst hO dX12_measures_33 ic_i_0 ?_
      refine b_goto hO dX12_measures_34 (tgt := 76) (by decide) ?_
      exact tfX12_measures_76 n0 hO k2 k9 hk2 hk9 _ _ _ _ _
theorem lX12_measures_9 (n0 : Nat) (hO : OKc p (rmL 2) s m args meth c LY D cy ad cX12_measures RX12 5 2 none) (k2 : Int32 → Mem → Option (Mem)) (hk2 : ∀ (x1 : Int32) (M : Mem), BL p l e (rmL 2) s m args below meth c LY D cy ad 5 (QV LY D cy ad) 2 [(0, .ref (ad 0)), (1, .int x1)] [] M (k2 x1 M)) : ∀ (w : Nat) (x1 : Int32) (x2 : Int32) (M : Mem), BL p l e (rmL 2) s m args below meth c LY D cy ad 5 (QV LY D cy ad) 9 [(0, .ref (ad 0)), (1, .int x1), (2, .int x2)] [] M (loopN (bX12_measures_9 n0 k2) (fun _ _ _ => none) w x1 x2 M) := by
  intro w
  induction w with
  | zero =>
    intros
    exact b_none
  | succ w ih =>
    intro x1 x2 M
    exact tbX12_measures_9 n0 hO k2 _ hk2 ih x1 x2 M
theorem tfX12_measures_9 (n0 : Nat) (hO : OKc p (rmL 2) s m args meth c LY D cy ad cX12_measures RX12 5 2 none) (k2 : Int32 → Mem → Option (Mem)) (hk2 : ∀ (x1 : Int32) (M : Mem), BL p l e (rmL 2) s m args below meth c LY D cy ad 5 (QV LY D cy ad) 2 [(0, .ref (ad 0)), (1, .int x1)] [] M (k2 x1 M)) (x1 : Int32) (x2 : Int32) (M : Mem) : BL p l e (rmL 2) s m args below meth c LY D cy ad 5 (QV LY D cy ad) 9 [(0, .ref (ad 0)), (1, .int x1), (2, .int x2)] [] M (fX12_measures_9 n0 k2 x1 x2 M) := lX12_measures_9 n0 hO k2 hk2 n0 x1 x2 M
theorem tfX12_measures_180 (n0 : Nat) (hO : OKc p (rmL 2) s m args meth c LY D cy ad cX12_measures RX12 5 2 none) (k91 : Int32 → Mem → Option (Mem)) (k98 : Int32 → Int32 → Mem → Option (Mem)) (k105 : Int32 → Int32 → Int32 → Mem → Option (Mem)) (hk91 : ∀ (x1 : Int32) (M : Mem), BL p l e (rmL 2) s m args below meth c LY D cy ad 5 (QV LY D cy ad) 91 [(0, .ref (ad 0)), (1, .int x1)] [] M (k91 x1 M)) (hk98 : ∀ (x1 : Int32) (x2 : Int32) (M : Mem), BL p l e (rmL 2) s m args below meth c LY D cy ad 5 (QV LY D cy ad) 98 [(0, .ref (ad 0)), (1, .int x1), (2, .int x2)] [] M (k98 x1 x2 M)) (hk105 : ∀ (x1 : Int32) (x2 : Int32) (x3 : Int32) (M : Mem), BL p l e (rmL 2) s m args below meth c LY D cy ad 5 (QV LY D cy ad) 105 [(0, .ref (ad 0)), (1, .int x1), (2, .int x2), (3, .int x3)] [] M (k105 x1 x2 x3 M)) (x1 : Int32) (x2 : Int32) (x3 : Int32) (M : Mem) : BL p l e (rmL 2) s m args below meth c LY D cy ad 5 (QV LY D cy ad) 180 [(0, .ref (ad 0)), (1, .int x1), (2, .int x2), (3, .int x3)] [] M (fX12_measures_180 n0 k91 k98 k105 x1 x2 x3 M) := by
  unfold fX12_measures_180
  refine b_iinc hO dX12_measures_180 3 rfl ic_i_1 (by decide) (lv' := [(3, .int _), (0, .ref _), (1, .int _), (2, .int _)]) rfl ?_
  refine b_goto hO dX12_measures_183 (tgt := 105) (by decide) ?_
  refine b_sub [1, 2, 3, 0] rfl ?_
  exact hk105 _ _ _ _
theorem tbX12_measures_105 (n0 : Nat) (hO : OKc p (rmL 2) s m args meth c LY D cy ad cX12_measures RX12 5 2 none) (k91 : Int32 → Mem → Option (Mem)) (k98 : Int32 → Int32 → Mem → Option (Mem)) (k105 : Int32 → Int32 → Int32 → Mem → Option (Mem)) (hk91 : ∀ (x1 : Int32) (M : Mem), BL p l e (rmL 2) s m args below meth c LY D cy ad 5 (QV LY D cy ad) 91 [(0, .ref (ad 0)), (1, .int x1)] [] M (k91 x1 M)) (hk98 : ∀ (x1 : Int32) (x2 : Int32) (M : Mem), BL p l e (rmL 2) s m args below meth c LY D cy ad 5 (QV LY D cy ad) 98 [(0, .ref (ad 0)), (1, .int x1), (2, .int x2)] [] M (k98 x1 x2 M)) (hk105 : ∀ (x1 : Int32) (x2 : Int32) (x3 : Int32) (M : Mem), BL p l e (rmL 2) s m args below meth c LY D cy ad 5 (QV LY D cy ad) 105 [(0, .ref (ad 0)), (1, .int x1), (2, .int x2), (3, .int x3)] [] M (k105 x1 x2 x3 M)) (x1 : Int32) (x2 : Int32) (x3 : Int32) (M : Mem) : BL p l e (rmL 2) s m args below meth c LY D cy ad 5 (QV LY D cy ad) 105 [(0, .ref (ad 0)), (1, .int x1), (2, .int x2), (3, .int x3)] [] M (bX12_measures_105 n0 k91 k98 k105 x1 x2 x3 M) := by
  unfold bX12_measures_105
  refine b_iload_n hO dX12_measures_105 3 rfl rfl ?_
  refine b_iconst hO dX12_measures_106 ic_i_5 ?_
  refine b_icmp_ge hO dX12_measures_107 (tgt := 186) (by decide) ?_ ?_
  · refine b_iinc hO dX12_measures_186 2 rfl ic_i_1 (by decide) (lv' := [(2, .int _), (0, .ref _), (1, .int _), (3, .int _)]) rfl ?_
    refine b_goto hO dX12_measures_189 (tgt := 98) (by decide) ?_
    refine b_sub [1, 2, 0] rfl ?_
    exact hk98 _ _ _
  · refine b_aload_n hO dX12_measures_110 0 rfl rfl ?_
    refine b_get hO flX12_75 kLY_0 (v := .ref (ad 9)) rfl dX12_measures_111 ?_
    refine b_aload_n hO dX12_measures_114 0 rfl rfl ?_
    refine b_aload_n hO dX12_measures_115 0 rfl rfl ?_
    refine b_get hO flX12_115 kLY_0 (v := .int (gI _ 34)) rfl dX12_measures_116 ?_
    refine b_iload_n hO dX12_measures_119 2 rfl rfl ?_
    refine b_iload_n hO dX12_measures_120 1 rfl rfl ?_
    refine b_callVI hO mdX12_at mvX12_at w1469 (ci := 12) rfl rfl (by decide) kLY_0 (As := [.int _, .int _, .int _]) (st := [.ref _]) (ctX12_at n0 hO.2.2.2.2.2.2.1 _ _ _ _) (Nat.le_of_ble_eq_true rfl) rfl rfl (Nat.le_of_ble_eq_true rfl) dX12_measures_121 (fun z121 => ?_)
    refine b_iald hO kLY_9 (n := 50) rfl dX12_measures_124 ?_
    refine b_aload_n hO dX12_measures_125 0 rfl rfl ?_
    refine b_get hO flX12_75 kLY_0 (v := .ref (ad 9)) rfl dX12_measures_126 ?_
    refine b_aload_n hO dX12_measures_129 0 rfl rfl ?_
    refine b_aload_n hO dX12_measures_130 0 rfl rfl ?_
    refine b_get hO flX12_115 kLY_0 (v := .int (gI _ 34)) rfl dX12_measures_131 ?_
    refine b_iload_n hO dX12_measures_134 1 rfl rfl ?_
    refine b_iload_n hO dX12_measures_135 3 rfl rfl ?_
    refine b_callVI hO mdX12_at mvX12_at w1469 (ci := 12) rfl rfl (by decide) kLY_0 (As := [.int _, .int _, .int _]) (st := [.ref _, .int _]) (ctX12_at n0 hO.2.2.2.2.2.2.1 _ _ _ _) (Nat.le_of_ble_eq_true rfl) rfl rfl (Nat.le_of_ble_eq_true rfl) dX12_measures_136 (fun z136 => ?_)
    refine b_iald hO kLY_9 (n := 50) rfl dX12_measures_139 ?_
    refine b_iadd hO dX12_measures_140 ?_
    refine b_topI (fun x4_141 => ?_)
    refine b_istore hO dX12_measures_141 (by decide) (lv' := [(4, .int _), (0, .ref _), (1, .int _), (2, .int _), (3, .int _)]) rfl ?_
    refine b_iload hO dX12_measures_143 0 rfl ?_
    refine b_aload_n hO dX12_measures_145 1 rfl rfl ?_
    refine b_get hO flX12_75 kLY_0 (v := .ref (ad 9)) rfl dX12_measures_146 ?_
    refine b_aload_n hO dX12_measures_149 1 rfl rfl ?_
    refine b_aload_n hO dX12_measures_150 1 rfl rfl ?_
    refine b_get hO flX12_115 kLY_0 (v := .int (gI _ 34)) rfl dX12_measures_151 ?_
    refine b_iload_n hO dX12_measures_154 3 rfl rfl ?_
    refine b_iload_n hO dX12_measures_155 4 rfl rfl ?_
    refine b_callVI hO mdX12_at mvX12_at w1469 (ci := 12) rfl rfl (by decide) kLY_0 (As := [.int _, .int _, .int _]) (st := [.ref _, .int _]) (ctX12_at n0 hO.2.2.2.2.2.2.1 _ _ _ _) (Nat.le_of_ble_eq_true rfl) rfl rfl (Nat.le_of_ble_eq_true rfl) dX12_measures_156 (fun z156 => ?_)
    refine b_iald hO kLY_9 (n := 50) rfl dX12_measures_159 ?_
    refine b_icmp_ge hO dX12_measures_160 (tgt := 180) (by decide) ?_ ?_
    · refine b_sub [1, 2, 3, 4] rfl ?_
      exact tfX12_measures_180 n0 hO k91 k98 k105 hk91 hk98 hk105 _ _ _ _
    · refine b_aload_n hO dX12_measures_163 1 rfl rfl ?_
      refine b_get hO flX12_75 kLY_0 (v := .ref (ad 9)) rfl dX12_measures_164 ?_
      refine b_aload_n hO dX12_measures_167 1 rfl rfl ?_
      refine b_aload_n hO dX12_measures_168 1 rfl rfl ?_
      refine b_get hO flX12_115 kLY_0 (v := .int (gI _ 34)) rfl dX12_measures_169 ?_
      refine b_iload_n hO dX12_measures_172 3 rfl rfl ?_
      refine b_iload_n hO dX12_measures_173 4 rfl rfl ?_
      refine b_callVI hO mdX12_at mvX12_at w1469 (ci := 12) rfl rfl (by decide) kLY_0 (As := [.int _, .int _, .int _]) (st := [.ref _]) (ctX12_at n0 hO.2.2.2.2.2.2.1 _ _ _ _) (Nat.le_of_ble_eq_true rfl) rfl rfl (Nat.le_of_ble_eq_true rfl) dX12_measures_174 (fun z174 => ?_)
      refine b_iload hO dX12_measures_177 0 rfl ?_
      refine b_iast hO kLY_9 (n := 50) rfl dX12_measures_179 ?_
      refine b_sub [1, 2, 3, 4] rfl ?_
      exact tfX12_measures_180 n0 hO k91 k98 k105 hk91 hk98 hk105 _ _ _ _
theorem lX12_measures_105 (n0 : Nat) (hO : OKc p (rmL 2) s m args meth c LY D cy ad cX12_measures RX12 5 2 none) (k91 : Int32 → Mem → Option (Mem)) (k98 : Int32 → Int32 → Mem → Option (Mem)) (hk91 : ∀ (x1 : Int32) (M : Mem), BL p l e (rmL 2) s m args below meth c LY D cy ad 5 (QV LY D cy ad) 91 [(0, .ref (ad 0)), (1, .int x1)] [] M (k91 x1 M)) (hk98 : ∀ (x1 : Int32) (x2 : Int32) (M : Mem), BL p l e (rmL 2) s m args below meth c LY D cy ad 5 (QV LY D cy ad) 98 [(0, .ref (ad 0)), (1, .int x1), (2, .int x2)] [] M (k98 x1 x2 M)) : ∀ (w : Nat) (x1 : Int32) (x2 : Int32) (x3 : Int32) (M : Mem), BL p l e (rmL 2) s m args below meth c LY D cy ad 5 (QV LY D cy ad) 105 [(0, .ref (ad 0)), (1, .int x1), (2, .int x2), (3, .int x3)] [] M (loopN (bX12_measures_105 n0 k91 k98) (fun _ _ _ _ => none) w x1 x2 x3 M) := by
  intro w
  induction w with
  | zero =>
    intros
    exact b_none
  | succ w ih =>
    intro x1 x2 x3 M
    exact tbX12_measures_105 n0 hO k91 k98 _ hk91 hk98 ih x1 x2 x3 M
theorem tfX12_measures_105 (n0 : Nat) (hO : OKc p (rmL 2) s m args meth c LY D cy ad cX12_measures RX12 5 2 none) (k91 : Int32 → Mem → Option (Mem)) (k98 : Int32 → Int32 → Mem → Option (Mem)) (hk91 : ∀ (x1 : Int32) (M : Mem), BL p l e (rmL 2) s m args below meth c LY D cy ad 5 (QV LY D cy ad) 91 [(0, .ref (ad 0)), (1, .int x1)] [] M (k91 x1 M)) (hk98 : ∀ (x1 : Int32) (x2 : Int32) (M : Mem), BL p l e (rmL 2) s m args below meth c LY D cy ad 5 (QV LY D cy ad) 98 [(0, .ref (ad 0)), (1, .int x1), (2, .int x2)] [] M (k98 x1 x2 M)) (x1 : Int32) (x2 : Int32) (x3 : Int32) (M : Mem) : BL p l e (rmL 2) s m args below meth c LY D cy ad 5 (QV LY D cy ad) 105 [(0, .ref (ad 0)), (1, .int x1), (2, .int x2), (3, .int x3)] [] M (fX12_measures_105 n0 k91 k98 x1 x2 x3 M) := lX12_measures_105 n0 hO k91 k98 hk91 hk98 n0 x1 x2 x3 M
theorem tbX12_measures_98 (n0 : Nat) (hO : OKc p (rmL 2) s m args meth c LY D cy ad cX12_measures RX12 5 2 none) (k91 : Int32 → Mem → Option (Mem)) (k98 : Int32 → Int32 → Mem → Option (Mem)) (hk91 : ∀ (x1 : Int32) (M : Mem), BL p l e (rmL 2) s m args below meth c LY D cy ad 5 (QV LY D cy ad) 91 [(0, .ref (ad 0)), (1, .int x1)] [] M (k91 x1 M)) (hk98 : ∀ (x1 : Int32) (x2 : Int32) (M : Mem), BL p l e (rmL 2) s m args below meth c LY D cy ad 5 (QV LY D cy ad) 98 [(0, .ref (ad 0)), (1, .int x1), (2, .int x2)] [] M (k98 x1 x2 M)) (x1 : Int32) (x2 : Int32) (M : Mem) : BL p l e (rmL 2) s m args below meth c LY D cy ad 5 (QV LY D cy ad) 98 [(0, .ref (ad 0)), (1, .int x1), (2, .int x2)] [] M (bX12_measures_98 n0 k91 k98 x1 x2 M) := by
  unfold bX12_measures_98
  refine b_iload_n hO dX12_measures_98 2 rfl rfl ?_
  refine b_iconst hO dX12_measures_99 ic_i_5 ?_
  refine b_icmp_ge hO dX12_measures_100 (tgt := 192) (by decide) ?_ ?_
  · refine b_iinc hO dX12_measures_192 1 rfl ic_i_1 (by decide) (lv' := [(1, .int _), (0, .ref _), (2, .int _)]) rfl ?_
    refine b_goto hO dX12_measures_195 (tgt := 91) (by decide) ?_
    refine b_sub [1, 0] rfl ?_
    exact hk91 _ _
  · refine b_iconst hO dX12_measures_103 ic_i_0 ?_
    refine b_istore_n hO dX12_measures_104 rfl (by decide) (lv' := [(3, .int _), (0, .ref _), (1, .int _), (2, .int _)]) rfl ?_
    refine b_sub [1, 2, 3, 0] rfl ?_
    exact tfX12_measures_105 n0 hO k91 k98 hk91 hk98 _ _ _ _
theorem lX12_measures_98 (n0 : Nat) (hO : OKc p (rmL 2) s m args meth c LY D cy ad cX12_measures RX12 5 2 none) (k91 : Int32 → Mem → Option (Mem)) (hk91 : ∀ (x1 : Int32) (M : Mem), BL p l e (rmL 2) s m args below meth c LY D cy ad 5 (QV LY D cy ad) 91 [(0, .ref (ad 0)), (1, .int x1)] [] M (k91 x1 M)) : ∀ (w : Nat) (x1 : Int32) (x2 : Int32) (M : Mem), BL p l e (rmL 2) s m args below meth c LY D cy ad 5 (QV LY D cy ad) 98 [(0, .ref (ad 0)), (1, .int x1), (2, .int x2)] [] M (loopN (bX12_measures_98 n0 k91) (fun _ _ _ => none) w x1 x2 M) := by
  intro w
  induction w with
  | zero =>
    intros
    exact b_none
  | succ w ih =>
    intro x1 x2 M
    exact tbX12_measures_98 n0 hO k91 _ hk91 ih x1 x2 M
theorem tfX12_measures_98 (n0 : Nat) (hO : OKc p (rmL 2) s m args meth c LY D cy ad cX12_measures RX12 5 2 none) (k91 : Int32 → Mem → Option (Mem)) (hk91 : ∀ (x1 : Int32) (M : Mem), BL p l e (rmL 2) s m args below meth c LY D cy ad 5 (QV LY D cy ad) 91 [(0, .ref (ad 0)), (1, .int x1)] [] M (k91 x1 M)) (x1 : Int32) (x2 : Int32) (M : Mem) : BL p l e (rmL 2) s m args below meth c LY D cy ad 5 (QV LY D cy ad) 98 [(0, .ref (ad 0)), (1, .int x1), (2, .int x2)] [] M (fX12_measures_98 n0 k91 x1 x2 M) := lX12_measures_98 n0 hO k91 hk91 n0 x1 x2 M
theorem tbX12_measures_91 (n0 : Nat) (hO : OKc p (rmL 2) s m args meth c LY D cy ad cX12_measures RX12 5 2 none) (k91 : Int32 → Mem → Option (Mem)) (hk91 : ∀ (x1 : Int32) (M : Mem), BL p l e (rmL 2) s m args below meth c LY D cy ad 5 (QV LY D cy ad) 91 [(0, .ref (ad 0)), (1, .int x1)] [] M (k91 x1 M)) (x1 : Int32) (M : Mem) : BL p l e (rmL 2) s m args below meth c LY D cy ad 5 (QV LY D cy ad) 91 [(0, .ref (ad 0)), (1, .int x1)] [] M (bX12_measures_91 n0 k91 x1 M) := by
  unfold bX12_measures_91
  refine b_iload_n hO dX12_measures_91 1 rfl rfl ?_
  refine b_iconst hO dX12_measures_92 ic_i_5 ?_
  refine b_icmp_ge hO dX12_measures_93 (tgt := 198) (by decide) ?_ ?_
  · exact b_vret hO dX12_measures_198
  · refine b_iconst hO dX12_measures_96 ic_i_0 ?_
    refine b_istore_n hO dX12_measures_97 rfl (by decide) (lv' := [(2, .int _), (0, .ref _), (1, .int _)]) rfl ?_
    refine b_sub [1, 2, 0] rfl ?_
    exact tfX12_measures_98 n0 hO k91 hk91 _ _ _
theorem lX12_measures_91 (n0 : Nat) (hO : OKc p (rmL 2) s m args meth c LY D cy ad cX12_measures RX12 5 2 none) : ∀ (w : Nat) (x1 : Int32) (M : Mem), BL p l e (rmL 2) s m args below meth c LY D cy ad 5 (QV LY D cy ad) 91 [(0, .ref (ad 0)), (1, .int x1)] [] M (loopN (bX12_measures_91 n0) (fun _ _ => none) w x1 M) := by
  intro w
  induction w with
  | zero =>
    intros
    exact b_none
  | succ w ih =>
    intro x1 M
    exact tbX12_measures_91 n0 hO _ ih x1 M
theorem tfX12_measures_91 (n0 : Nat) (hO : OKc p (rmL 2) s m args meth c LY D cy ad cX12_measures RX12 5 2 none) (x1 : Int32) (M : Mem) : BL p l e (rmL 2) s m args below meth c LY D cy ad 5 (QV LY D cy ad) 91 [(0, .ref (ad 0)), (1, .int x1)] [] M (fX12_measures_91 n0 x1 M) := lX12_measures_91 n0 hO n0 x1 M
theorem tbX12_measures_2 (n0 : Nat) (hO : OKc p (rmL 2) s m args meth c LY D cy ad cX12_measures RX12 5 2 none) (k2 : Int32 → Mem → Option (Mem)) (hk2 : ∀ (x1 : Int32) (M : Mem), BL p l e (rmL 2) s m args below meth c LY D cy ad 5 (QV LY D cy ad) 2 [(0, .ref (ad 0)), (1, .int x1)] [] M (k2 x1 M)) (x1 : Int32) (M : Mem) : BL p l e (rmL 2) s m args below meth c LY D cy ad 5 (QV LY D cy ad) 2 [(0, .ref (ad 0)), (1, .int x1)] [] M (bX12_measures_2 n0 k2 x1 M) := by
  unfold bX12_measures_2
  refine b_iload_n hO dX12_measures_2 1 rfl rfl ?_
  refine b_iconst hO dX12_measures_3 ic_i_5 ?_
  refine b_icmp_ge hO dX12_measures_4 (tgt := 89) (by decide) ?_ ?_
  · refine b_iconst hO dX12_measures_89 ic_i_0 ?_
    refine b_istore_n hO dX12_measures_90 rfl (by decide) (lv' := [(1, .int _), (0, .ref _)]) rfl ?_
    refine b_sub [1, 0] rfl ?_
    exact tfX12_measures_91 n0 hO _ _
  · refine b_iconst hO dX12_measures_7 ic_i_0 ?_
    refine b_istore_n hO dX12_measures_8 rfl (by decide) (lv' := [(2, .int _), (0, .ref _), (1, .int _)]) rfl ?_
    refine b_sub [1, 2, 0] rfl ?_
    exact tfX12_measures_9 n0 hO k2 hk2 _ _ _
theorem lX12_measures_2 (n0 : Nat) (hO : OKc p (rmL 2) s m args meth c LY D cy ad cX12_measures RX12 5 2 none) : ∀ (w : Nat) (x1 : Int32) (M : Mem), BL p l e (rmL 2) s m args below meth c LY D cy ad 5 (QV LY D cy ad) 2 [(0, .ref (ad 0)), (1, .int x1)] [] M (loopN (bX12_measures_2 n0) (fun _ _ => none) w x1 M) := by
  intro w
  induction w with
  | zero =>
    intros
    exact b_none
  | succ w ih =>
    intro x1 M
    exact tbX12_measures_2 n0 hO _ ih x1 M
theorem tfX12_measures_2 (n0 : Nat) (hO : OKc p (rmL 2) s m args meth c LY D cy ad cX12_measures RX12 5 2 none) (x1 : Int32) (M : Mem) : BL p l e (rmL 2) s m args below meth c LY D cy ad 5 (QV LY D cy ad) 2 [(0, .ref (ad 0)), (1, .int x1)] [] M (fX12_measures_2 n0 x1 M) := lX12_measures_2 n0 hO n0 x1 M
theorem tfX12_measures (n0 : Nat) (hO : OKc p (rmL 2) s m args meth c LY D cy ad cX12_measures RX12 5 2 none) (M : Mem) : BL p l e (rmL 2) s m args below meth c LY D cy ad 5 (QV LY D cy ad) 0 [(0, .ref (ad 0))] [] M (fX12_measures n0 M) := by
  unfold fX12_measures
  refine b_iconst hO dX12_measures_0 ic_i_0 ?_
  refine b_istore_n hO dX12_measures_1 rfl (by decide) (lv' := [(1, .int _), (0, .ref _)]) rfl ?_
  refine b_sub [1, 0] rfl ?_
  exact tfX12_measures_2 n0 hO _ _
theorem ctX12_measures (n0 : Nat) (hI : Inj LY ad) (M : Mem) : CT l LY D cy ad yX12_measures cX12_measures 5 none 2 (QV LY D cy ad) [.ref (ad 0)] M (fX12_measures n0 M) :=
  CT.mk LYok hI (by decide) (Nat.le_of_ble_eq_true rfl) (fun hO => tfX12_measures n0 hO M)
/-! X12_lays -/
def fX12_lays_120 (n0 : Nat) (u1 : Int32) (u2 : Int32) (M : Mem) : Option (Mem) :=
  if oob u1 10 then none else
  some (sA M 35 (Int32.toNatClampNeg u1) u2)
def fX12_lays_90 (n0 : Nat) (x3 : Int32) (u1 : Int32) (u2 : Int32) (M : Mem) : Option (Mem) :=
  if oob u1 10 then none else
  bnd (sA M 35 (Int32.toNatClampNeg u1) u2) fun M90 =>
  if x3 = (-1 : Int32) then
    fX12_lays_120 n0 (6 : Int32) (0 : Int32) M90
  else
    if oob (((6 : Int32) * (gI M90 13)) + x3) 12 then none else
    fX12_lays_120 n0 (6 : Int32) (gA M90 4 (Int32.toNatClampNeg (((6 : Int32) * (gI M90 13)) + x3))) M90
def fX12_lays_39 (n0 : Nat) (x1 : Int32) (x2 : Int32) (x3 : Int32) (u1 : Int32) (u2 : Int32) (M : Mem) : Option (Mem) :=
  if oob u1 10 then none else
  bnd (sA M 35 (Int32.toNatClampNeg u1) u2) fun M39 =>
  if oob (((5 : Int32) * x1) + x2) 110 then none else
  if oob (2 : Int32) 10 then none else
  bnd (sA M39 35 (Int32.toNatClampNeg (2 : Int32)) (gA M39 30 (Int32.toNatClampNeg (((5 : Int32) * x1) + x2)))) fun M55 =>
  if oob (3 : Int32) 10 then none else
  bnd (sA M55 35 (Int32.toNatClampNeg (3 : Int32)) x2) fun M62 =>
  if oob x1 22 then none else
  if oob (4 : Int32) 10 then none else
  bnd (sA M62 35 (Int32.toNatClampNeg (4 : Int32)) (gA M62 28 (Int32.toNatClampNeg x1))) fun M74 =>
  if x3 = (-1 : Int32) then
    fX12_lays_90 n0 x3 (5 : Int32) (1 : Int32) M74
  else
    fX12_lays_90 n0 x3 (5 : Int32) (0 : Int32) M74
def fX12_lays (n0 : Nat) (x1 : Int32) (x2 : Int32) (M : Mem) : Option (Mem) :=
  if oob (((5 : Int32) * x1) + x2) 110 then none else
  bnd (gA M 29 (Int32.toNatClampNeg (((5 : Int32) * x1) + x2))) fun x3_10 =>
  if x3_10 = (-1 : Int32) then
    fX12_lays_39 n0 x1 x2 x3_10 (1 : Int32) (0 : Int32) M
  else
    if oob (((6 : Int32) * (gI M 13)) + x3_10) 12 then none else
    fX12_lays_39 n0 x1 x2 x3_10 (1 : Int32) (gA M 3 (Int32.toNatClampNeg (((6 : Int32) * (gI M 13)) + x3_10))) M
theorem tfX12_lays_120 (n0 : Nat) (hO : OKc p (rmL 1) s m args meth c LY D cy ad cX12_lays RX12 4 1 none) (u1 : Int32) (u2 : Int32) (M : Mem) : BL p l e (rmL 1) s m args below meth c LY D cy ad 4 (QV LY D cy ad) 120 [] [.int u2, .int u1, .ref (ad 35)] M (fX12_lays_120 n0 u1 u2 M) := by
  unfold fX12_lays_120
  refine b_iast hO kLY_35 (n := 10) rfl dX12_lays_120 ?_
  exact b_vret hO dX12_lays_121
theorem tfX12_lays_90 (n0 : Nat) (hO : OKc p (rmL 1) s m args meth c LY D cy ad cX12_lays RX12 4 1 none) (x3 : Int32) (u1 : Int32) (u2 : Int32) (M : Mem) : BL p l e (rmL 1) s m args below meth c LY D cy ad 4 (QV LY D cy ad) 90 [(0, .ref (ad 0)), (3, .int x3)] [.int u2, .int u1, .ref (ad 35)] M (fX12_lays_90 n0 x3 u1 u2 M) := by
  unfold fX12_lays_90
  refine b_iast hO kLY_35 (n := 10) rfl dX12_lays_90 ?_
  refine b_bnd (fun M90 => ?_)
  refine b_aload_n hO dX12_lays_91 0 rfl rfl ?_
  refine b_get hO flX12_186 kLY_0 (v := .ref (ad 35)) rfl dX12_lays_92 ?_
  refine b_bipush hO dX12_lays_95 ic_b_6 ?_
  refine b_iload_n hO dX12_lays_97 1 rfl rfl ?_
  refine b_iconst hO dX12_lays_98 ic_i_m1 ?_
  refine b_icmp_ne hO dX12_lays_99 (tgt := 106) (by decide) ?_ ?_
  · refine b_aload_n hO dX12_lays_106 0 rfl rfl ?_
    refine b_get hO flX12_60 kLY_0 (v := .ref (ad 4)) rfl dX12_lays_107 ?_
    refine b_bipush hO dX12_lays_110 ic_b_6 ?_
    refine b_aload_n hO dX12_lays_112 0 rfl rfl ?_
    refine b_get hO flX12_51 kLY_0 (v := .int (gI _ 13)) rfl dX12_lays_113 ?_
    refine b_imul hO dX12_lays_116 ?_
    refine b_iload_n hO dX12_lays_117 1 rfl rfl ?_
    refine b_iadd hO dX12_lays_118 ?_
    refine b_iald hO kLY_4 (n := 12) rfl dX12_lays_119 ?_
    refine b_sub [] rfl ?_
    exact tfX12_lays_120 n0 hO _ _ _
  · refine b_iconst hO dX12_lays_102 ic_i_0 ?_
    refine b_goto hO dX12_lays_103 (tgt := 120) (by decide) ?_
    refine b_sub [] rfl ?_
    exact tfX12_lays_120 n0 hO _ _ _
theorem tfX12_lays_39 (n0 : Nat) (hO : OKc p (rmL 1) s m args meth c LY D cy ad cX12_lays RX12 4 1 none) (x1 : Int32) (x2 : Int32) (x3 : Int32) (u1 : Int32) (u2 : Int32) (M : Mem) : BL p l e (rmL 1) s m args below meth c LY D cy ad 4 (QV LY D cy ad) 39 [(0, .ref (ad 0)), (1, .int x1), (2, .int x2), (3, .int x3)] [.int u2, .int u1, .ref (ad 35)] M (fX12_lays_39 n0 x1 x2 x3 u1 u2 M) := by
  unfold fX12_lays_39
  refine b_iast hO kLY_35 (n := 10) rfl dX12_lays_39 ?_
  refine b_bnd (fun M39 => ?_)
  refine b_aload_n hO dX12_lays_40 0 rfl rfl ?_
  refine b_get hO flX12_186 kLY_0 (v := .ref (ad 35)) rfl dX12_lays_41 ?_
  refine b_iconst hO dX12_lays_44 ic_i_2 ?_
  refine b_aload_n hO dX12_lays_45 0 rfl rfl ?_
  refine b_get hO flX12_162 kLY_0 (v := .ref (ad 30)) rfl dX12_lays_46 ?_
  refine b_iconst hO dX12_lays_49 ic_i_5 ?_
  refine b_iload_n hO dX12_lays_50 1 rfl rfl ?_
  refine b_imul hO dX12_lays_51 ?_
  refine b_iload_n hO dX12_lays_52 2 rfl rfl ?_
  refine b_iadd hO dX12_lays_53 ?_
  refine b_iald hO kLY_30 (n := 110) rfl dX12_lays_54 ?_
  refine b_iast hO kLY_35 (n := 10) rfl dX12_lays_55 ?_
  refine b_bnd (fun M55 => ?_)
  refine b_aload_n hO dX12_lays_56 0 rfl rfl ?_
  refine b_get hO flX12_186 kLY_0 (v := .ref (ad 35)) rfl dX12_lays_57 ?_
  refine b_iconst hO dX12_lays_60 ic_i_3 ?_
  refine b_iload_n hO dX12_lays_61 2 rfl rfl ?_
  refine b_iast hO kLY_35 (n := 10) rfl dX12_lays_62 ?_
  refine b_bnd (fun M62 => ?_)
  refine b_aload_n hO dX12_lays_63 0 rfl rfl ?_
  refine b_get hO flX12_186 kLY_0 (v := .ref (ad 35)) rfl dX12_lays_64 ?_
  refine b_iconst hO dX12_lays_67 ic_i_4 ?_
  refine b_aload_n hO dX12_lays_68 0 rfl rfl ?_
  refine b_get hO flX12_156 kLY_0 (v := .ref (ad 28)) rfl dX12_lays_69 ?_
  refine b_iload_n hO dX12_lays_72 1 rfl rfl ?_
  refine b_iald hO kLY_28 (n := 22) rfl dX12_lays_73 ?_
  refine b_iast hO kLY_35 (n := 10) rfl dX12_lays_74 ?_
  refine b_bnd (fun M74 => ?_)
  refine b_aload_n hO dX12_lays_75 0 rfl rfl ?_
  refine b_get hO flX12_186 kLY_0 (v := .ref (ad 35)) rfl dX12_lays_76 ?_
  refine b_iconst hO dX12_lays_79 ic_i_5 ?_
  refine b_iload_n hO dX12_lays_80 3 rfl rfl ?_
  refine b_iconst hO dX12_lays_81 ic_i_m1 ?_
  refine b_icmp_ne hO dX12_lays_82 (tgt := 89) (by decide) ?_ ?_
  · refine b_iconst hO dX12_lays_89 ic_i_0 ?_
    refine b_sub [0, 3] rfl ?_
    exact tfX12_lays_90 n0 hO _ _ _ _
  · refine b_iconst hO dX12_lays_85 ic_i_1 ?_
    refine b_goto hO dX12_lays_86 (tgt := 90) (by decide) ?_
    refine b_sub [0, 3] rfl ?_
    exact tfX12_lays_90 n0 hO _ _ _ _
theorem tfX12_lays (n0 : Nat) (hO : OKc p (rmL 1) s m args meth c LY D cy ad cX12_lays RX12 4 1 none) (x1 : Int32) (x2 : Int32) (M : Mem) : BL p l e (rmL 1) s m args below meth c LY D cy ad 4 (QV LY D cy ad) 0 [(0, .ref (ad 0)), (1, .int x1), (2, .int x2)] [] M (fX12_lays n0 x1 x2 M) := by
  unfold fX12_lays
  refine b_aload_n hO dX12_lays_0 0 rfl rfl ?_
  refine b_get hO flX12_159 kLY_0 (v := .ref (ad 29)) rfl dX12_lays_1 ?_
  refine b_iconst hO dX12_lays_4 ic_i_5 ?_
  refine b_iload_n hO dX12_lays_5 1 rfl rfl ?_
  refine b_imul hO dX12_lays_6 ?_
  refine b_iload_n hO dX12_lays_7 2 rfl rfl ?_
  refine b_iadd hO dX12_lays_8 ?_
  refine b_iald hO kLY_29 (n := 110) rfl dX12_lays_9 ?_
  refine b_topI (fun x3_10 => ?_)
  refine b_istore_n hO dX12_lays_10 rfl (by decide) (lv' := [(3, .int _), (0, .ref _), (1, .int _), (2, .int _)]) rfl ?_
  refine b_aload_n hO dX12_lays_11 1 rfl rfl ?_
  refine b_get hO flX12_186 kLY_0 (v := .ref (ad 35)) rfl dX12_lays_12 ?_
  refine b_iconst hO dX12_lays_15 ic_i_1 ?_
  refine b_iload_n hO dX12_lays_16 0 rfl rfl ?_
  refine b_iconst hO dX12_lays_17 ic_i_m1 ?_
  refine b_icmp_ne hO dX12_lays_18 (tgt := 25) (by decide) ?_ ?_
  · refine b_aload_n hO dX12_lays_25 1 rfl rfl ?_
    refine b_get hO flX12_57 kLY_0 (v := .ref (ad 3)) rfl dX12_lays_26 ?_
    refine b_bipush hO dX12_lays_29 ic_b_6 ?_
    refine b_aload_n hO dX12_lays_31 1 rfl rfl ?_
    refine b_get hO flX12_51 kLY_0 (v := .int (gI _ 13)) rfl dX12_lays_32 ?_
    refine b_imul hO dX12_lays_35 ?_
    refine b_iload_n hO dX12_lays_36 0 rfl rfl ?_
    refine b_iadd hO dX12_lays_37 ?_
    refine b_iald hO kLY_3 (n := 12) rfl dX12_lays_38 ?_
    refine b_sub [1, 2, 3, 0] rfl ?_
    exact tfX12_lays_39 n0 hO _ _ _ _ _ _
  · refine b_iconst hO dX12_lays_21 ic_i_0 ?_
    refine b_goto hO dX12_lays_22 (tgt := 39) (by decide) ?_
    refine b_sub [1, 2, 3, 0] rfl ?_
    exact tfX12_lays_39 n0 hO _ _ _ _ _ _
theorem ctX12_lays (n0 : Nat) (hI : Inj LY ad) (x1 : Int32) (x2 : Int32) (M : Mem) : CT l LY D cy ad yX12_lays cX12_lays 4 none 1 (QV LY D cy ad) [.ref (ad 0), .int x1, .int x2] M (fX12_lays n0 x1 x2 M) :=
  CT.mk LYok hI (by decide) (Nat.le_of_ble_eq_true rfl) (fun hO => tfX12_lays n0 hO x1 x2 M)
/-! X12_isTold -/
def fX12_isTold (n0 : Nat) (x1 : Int32) (M : Mem) : Option (Int32 × Mem) :=
  if oob (((2 : Int32) * (gI M 13)) + x1) 4 then none else
  if (gA M 14 (Int32.toNatClampNeg (((2 : Int32) * (gI M 13)) + x1))) = (-1 : Int32) then
    some ((0 : Int32), M)
  else
    some ((1 : Int32), M)
theorem tfX12_isTold (n0 : Nat) (hO : OKc p (rmL 1) s m args meth c LY D cy ad cX12_isTold RX12 2 1 (some .boolean)) (x1 : Int32) (M : Mem) : BL p l e (rmL 1) s m args below meth c LY D cy ad 2 (QI LY D cy ad) 0 [(0, .ref (ad 0)), (1, .int x1)] [] M (fX12_isTold n0 x1 M) := by
  unfold fX12_isTold
  refine b_aload_n hO dX12_isTold_0 0 rfl rfl ?_
  refine b_get hO flX12_90 kLY_0 (v := .ref (ad 14)) rfl dX12_isTold_1 ?_
  refine b_iconst hO dX12_isTold_4 ic_i_2 ?_
  refine b_aload_n hO dX12_isTold_5 0 rfl rfl ?_
  refine b_get hO flX12_51 kLY_0 (v := .int (gI _ 13)) rfl dX12_isTold_6 ?_
  refine b_imul hO dX12_isTold_9 ?_
  refine b_iload_n hO dX12_isTold_10 1 rfl rfl ?_
  refine b_iadd hO dX12_isTold_11 ?_
  refine b_iald hO kLY_14 (n := 4) rfl dX12_isTold_12 ?_
  refine b_iconst hO dX12_isTold_13 ic_i_m1 ?_
  refine b_icmp_eq hO dX12_isTold_14 (tgt := 21) (by decide) ?_ ?_
  · refine b_iconst hO dX12_isTold_21 ic_i_0 ?_
    exact b_zretc hO (Or.inl rfl) dX12_isTold_22
  · refine b_iconst hO dX12_isTold_17 ic_i_1 ?_
    refine b_goto hO dX12_isTold_18 (tgt := 22) (by decide) ?_
    exact b_zretc hO (Or.inr rfl) dX12_isTold_22
theorem ctX12_isTold (n0 : Nat) (hI : Inj LY ad) (x1 : Int32) (M : Mem) : CT l LY D cy ad yX12_isTold cX12_isTold 2 (some .boolean) 1 (QI LY D cy ad) [.ref (ad 0), .int x1] M (fX12_isTold n0 x1 M) :=
  CT.mk LYok hI (by decide) (Nat.le_of_ble_eq_true rfl) (fun hO => tfX12_isTold n0 hO x1 M)
/-! X12_within -/
def fX12_within (n0 : Nat) (y0 : Int64) (M : Mem) : Option (Int64 × Mem) :=
  if (lg_cmp y0 (1000000 : Int64)) ≤ 0 then
    if 0 ≤ (lg_cmp y0 (-1000000 : Int64)) then
      some (y0, M)
    else
      some ((-1000000 : Int64), M)
  else
    some ((1000000 : Int64), M)
theorem tfX12_within (n0 : Nat) (hO : OKc p (rmL 1) s m args meth c LY D cy ad cX12_within RX12 2 1 (some .long)) (y0 : Int64) (M : Mem) : BL p l e (rmL 1) s m args below meth c LY D cy ad 2 (QL LY D cy ad) 0 [(0, .long y0)] [] M (fX12_within n0 y0 M) := by
  unfold fX12_within
  refine b_lload_n hO dX12_within_0 0 rfl rfl ?_
  refine b_ldc2 hO w1679 dX12_within_1 ?_
  refine b_lcmp hO dX12_within_4 ?_
  refine b_if_le hO dX12_within_5 (tgt := 14) (by decide) ?_ ?_
  · refine b_lload_n hO dX12_within_14 0 rfl rfl ?_
    refine b_ldc2 hO w1680 dX12_within_15 ?_
    refine b_lcmp hO dX12_within_18 ?_
    refine b_if_ge hO dX12_within_19 (tgt := 28) (by decide) ?_ ?_
    · refine b_lload_n hO dX12_within_28 0 rfl rfl ?_
      exact b_lret hO dX12_within_29
    · refine b_ldc2 hO w1680 dX12_within_22 ?_
      refine b_goto hO dX12_within_25 (tgt := 29) (by decide) ?_
      exact b_lret hO dX12_within_29
  · refine b_ldc2 hO w1679 dX12_within_8 ?_
    refine b_goto hO dX12_within_11 (tgt := 29) (by decide) ?_
    exact b_lret hO dX12_within_29
theorem ctX12_within (n0 : Nat) (hI : Inj LY ad) (y0 : Int64) (M : Mem) : CT l LY D cy ad yX12_within cX12_within 2 (some .long) 1 (QL LY D cy ad) [.long y0] M (fX12_within n0 y0 M) :=
  CT.mk LYok hI (by decide) (Nat.le_of_ble_eq_true rfl) (fun hO => tfX12_within n0 hO y0 M)
/-! X12_floor -/
def fX12_floor_43 (n0 : Nat) (y4 : Int64) (u0 : Int32) (u1 : Int32) (M : Mem) : Option (Int64 × Mem) :=
  if u0 = u1 then
    some (y4, M)
  else
    some ((y4 - (1 : Int64)), M)
def fX12_floor_32 (n0 : Nat) (y2 : Int64) (y4 : Int64) (u0 : Int32) (M : Mem) : Option (Int64 × Mem) :=
  if 0 ≤ (lg_cmp y2 (0 : Int64)) then
    fX12_floor_43 n0 y4 u0 (0 : Int32) M
  else
    fX12_floor_43 n0 y4 u0 (1 : Int32) M
def fX12_floor (n0 : Nat) (y0 : Int64) (y2 : Int64) (M : Mem) : Option (Int64 × Mem) :=
  if (lg_cmp y2 (0 : Int64)) = 0 then
    some ((0 : Int64), M)
  else
    if y2 = 0 then none else
    bnd (y0 / y2) fun y4_11 =>
    if y2 = 0 then none else
    if (lg_cmp (rem64 y0 y2) (0 : Int64)) = 0 then
      some (y4_11, M)
    else
      if 0 ≤ (lg_cmp y0 (0 : Int64)) then
        fX12_floor_32 n0 y2 y4_11 (0 : Int32) M
      else
        fX12_floor_32 n0 y2 y4_11 (1 : Int32) M
theorem tfX12_floor_43 (n0 : Nat) (hO : OKc p (rmL 1) s m args meth c LY D cy ad cX12_floor RX12 6 1 (some .long)) (y4 : Int64) (u0 : Int32) (u1 : Int32) (M : Mem) : BL p l e (rmL 1) s m args below meth c LY D cy ad 6 (QL LY D cy ad) 43 [(4, .long y4)] [.int u1, .int u0] M (fX12_floor_43 n0 y4 u0 u1 M) := by
  unfold fX12_floor_43
  refine b_icmp_eq hO dX12_floor_43 (tgt := 53) (by decide) ?_ ?_
  · refine b_lload hO dX12_floor_53 0 rfl ?_
    exact b_lret hO dX12_floor_55
  · refine b_lload hO dX12_floor_46 0 rfl ?_
    refine b_lconst hO dX12_floor_48 (v := 1) rfl ?_
    refine b_lsub hO dX12_floor_49 ?_
    refine b_goto hO dX12_floor_50 (tgt := 55) (by decide) ?_
    exact b_lret hO dX12_floor_55
theorem tfX12_floor_32 (n0 : Nat) (hO : OKc p (rmL 1) s m args meth c LY D cy ad cX12_floor RX12 6 1 (some .long)) (y2 : Int64) (y4 : Int64) (u0 : Int32) (M : Mem) : BL p l e (rmL 1) s m args below meth c LY D cy ad 6 (QL LY D cy ad) 32 [(2, .long y2), (4, .long y4)] [.int u0] M (fX12_floor_32 n0 y2 y4 u0 M) := by
  unfold fX12_floor_32
  refine b_lload_n hO dX12_floor_32 0 rfl rfl ?_
  refine b_lconst hO dX12_floor_33 (v := 0) rfl ?_
  refine b_lcmp hO dX12_floor_34 ?_
  refine b_if_ge hO dX12_floor_35 (tgt := 42) (by decide) ?_ ?_
  · refine b_iconst hO dX12_floor_42 ic_i_0 ?_
    refine b_sub [1] rfl ?_
    exact tfX12_floor_43 n0 hO _ _ _ _
  · refine b_iconst hO dX12_floor_38 ic_i_1 ?_
    refine b_goto hO dX12_floor_39 (tgt := 43) (by decide) ?_
    refine b_sub [1] rfl ?_
    exact tfX12_floor_43 n0 hO _ _ _ _
theorem tfX12_floor (n0 : Nat) (hO : OKc p (rmL 1) s m args meth c LY D cy ad cX12_floor RX12 6 1 (some .long)) (y0 : Int64) (y2 : Int64) (M : Mem) : BL p l e (rmL 1) s m args below meth c LY D cy ad 6 (QL LY D cy ad) 0 [(0, .long y0), (2, .long y2)] [] M (fX12_floor n0 y0 y2 M) := by
  unfold fX12_floor
  refine b_lload_n hO dX12_floor_0 1 rfl rfl ?_
  refine b_lconst hO dX12_floor_1 (v := 0) rfl ?_
  refine b_lcmp hO dX12_floor_2 ?_
  refine b_if_ne hO dX12_floor_3 (tgt := 8) (by decide) ?_ ?_
  · refine b_lload_n hO dX12_floor_8 0 rfl rfl ?_
    refine b_lload_n hO dX12_floor_9 1 rfl rfl ?_
    refine b_ldiv hO dX12_floor_10 ?_
    refine b_topL (fun y4_11 => ?_)
    refine b_lstore hO dX12_floor_11 (by decide) (lv' := [(4, .long _), (0, .long _), (2, .long _)]) rfl ?_
    refine b_lload_n hO dX12_floor_13 1 rfl rfl ?_
    refine b_lload_n hO dX12_floor_14 2 rfl rfl ?_
    refine b_lrem hO dX12_floor_15 ?_
    refine b_lconst hO dX12_floor_16 (v := 0) rfl ?_
    refine b_lcmp hO dX12_floor_17 ?_
    refine b_if_eq hO dX12_floor_18 (tgt := 53) (by decide) ?_ ?_
    · refine b_lload hO dX12_floor_53 0 rfl ?_
      exact b_lret hO dX12_floor_55
    · refine b_lload_n hO dX12_floor_21 1 rfl rfl ?_
      refine b_lconst hO dX12_floor_22 (v := 0) rfl ?_
      refine b_lcmp hO dX12_floor_23 ?_
      refine b_if_ge hO dX12_floor_24 (tgt := 31) (by decide) ?_ ?_
      · refine b_iconst hO dX12_floor_31 ic_i_0 ?_
        refine b_sub [2, 0] rfl ?_
        exact tfX12_floor_32 n0 hO _ _ _ _
      · refine b_iconst hO dX12_floor_27 ic_i_1 ?_
        refine b_goto hO dX12_floor_28 (tgt := 32) (by decide) ?_
        refine b_sub [2, 0] rfl ?_
        exact tfX12_floor_32 n0 hO _ _ _ _
  · refine b_lconst hO dX12_floor_6 (v := 0) rfl ?_
    exact b_lret hO dX12_floor_7
theorem ctX12_floor (n0 : Nat) (hI : Inj LY ad) (y0 : Int64) (y2 : Int64) (M : Mem) : CT l LY D cy ad yX12_floor cX12_floor 6 (some .long) 1 (QL LY D cy ad) [.long y0, .long y2] M (fX12_floor n0 y0 y2 M) :=
  CT.mk LYok hI (by decide) (Nat.le_of_ble_eq_true rfl) (fun hO => tfX12_floor n0 hO y0 y2 M)
end
