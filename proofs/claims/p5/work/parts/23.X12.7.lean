section
variable {p : Program} {l : Launch} {e : Env} {s : State} {m : MethodId} {args : Array Value} {below : List Frame} {meth : Method} {c : Code} {D : va_G} {cy : Nat → ClassId} {ad : Nat → Nat} {dd : Nat}

/-! X12_see -/
def fX12_see_87 (n0 : Nat) (k34 : Int32 → Int32 → Int32 → Mem → Option (Int32 × Mem)) (x1 : Int32) (x3 : Int32) (u0 : Int32) (M : Mem) : Option (Int32 × Mem) :=
  k34 x1 u0 (x3 + (3 : Int32)) M
def fX12_see_86 (n0 : Nat) (k34 : Int32 → Int32 → Int32 → Mem → Option (Int32 × Mem)) (x1 : Int32) (x3 : Int32) (M : Mem) : Option (Int32 × Mem) :=
  fX12_see_87 n0 k34 x1 x3 (0 : Int32) M
def bX12_see_113 (n0 : Nat) (k113 : Int32 → Mem → Option (Int32 × Mem)) (x3 : Int32) (M : Mem) : Option (Int32 × Mem) :=
  if (gI M 61) ≤ x3 then
    some ((gI M 61), M)
  else
    if oob ((3 : Int32) * x3) 1800 then none else
    if oob x3 16 then none else
    bnd (sA M 39 (Int32.toNatClampNeg x3) (gA M 1 (Int32.toNatClampNeg ((3 : Int32) * x3)))) fun M134 =>
    if oob (((3 : Int32) * x3) + (1 : Int32)) 1800 then none else
    if oob x3 16 then none else
    bnd (sA M134 40 (Int32.toNatClampNeg x3) (gA M134 1 (Int32.toNatClampNeg (((3 : Int32) * x3) + (1 : Int32))))) fun M150 =>
    if oob (((3 : Int32) * x3) + (2 : Int32)) 1800 then none else
    if oob x3 16 then none else
    bnd (sA M150 41 (Int32.toNatClampNeg x3) (gA M150 1 (Int32.toNatClampNeg (((3 : Int32) * x3) + (2 : Int32))))) fun M166 =>
    k113 (x3 + (1 : Int32)) M166
def fX12_see_113 (n0 : Nat) : Int32 → Mem → Option (Int32 × Mem) := loopN (bX12_see_113 n0) (fun _ _ => none) n0
def fX12_see_94 (n0 : Nat) (x1 : Int32) (x2 : Int32) (M : Mem) : Option (Int32 × Mem) :=
  if x2 = 0 then
    (fX12_refuses n0 (5 : Int32) M).bind fun z100 =>
    some (z100.1, z100.2)
  else
    if (3 : Int32) = 0 then none else
    bnd (sI M 61 (x1 / (3 : Int32))) fun M108 =>
    fX12_see_113 n0 (0 : Int32) M108
def bX12_see_34 (n0 : Nat) (k34 : Int32 → Int32 → Int32 → Mem → Option (Int32 × Mem)) (x1 : Int32) (x2 : Int32) (x3 : Int32) (M : Mem) : Option (Int32 × Mem) :=
  if x1 ≤ x3 then
    fX12_see_94 n0 x1 x2 M
  else
    if x2 = 0 then
      fX12_see_94 n0 x1 x2 M
    else
      if oob x3 1800 then none else
      if (40 : Int32) < (gA M 1 (Int32.toNatClampNeg x3)) then
        fX12_see_86 n0 k34 x1 x3 M
      else
        if oob (x3 + (1 : Int32)) 1800 then none else
        (fX12_isCorner n0 (gA M 1 (Int32.toNatClampNeg (x3 + (1 : Int32)))) M).bind fun z63 =>
        if z63.1 = 0 then
          fX12_see_86 n0 k34 x1 x3 z63.2
        else
          if oob (x3 + (2 : Int32)) 1800 then none else
          if (23 : Int32) < (gA z63.2 1 (Int32.toNatClampNeg (x3 + (2 : Int32)))) then
            fX12_see_86 n0 k34 x1 x3 z63.2
          else
            fX12_see_87 n0 k34 x1 x3 (1 : Int32) z63.2
def fX12_see_34 (n0 : Nat) : Int32 → Int32 → Int32 → Mem → Option (Int32 × Mem) := loopN (bX12_see_34 n0) (fun _ _ _ _ => none) n0
def fX12_see_31 (n0 : Nat) (x1 : Int32) (u0 : Int32) (M : Mem) : Option (Int32 × Mem) :=
  fX12_see_34 n0 x1 u0 (0 : Int32) M
def fX12_see_30 (n0 : Nat) (x1 : Int32) (M : Mem) : Option (Int32 × Mem) :=
  fX12_see_31 n0 x1 (0 : Int32) M
def fX12_see (n0 : Nat) (M : Mem) : Option (Int32 × Mem) :=
  bnd (gI M 1) fun x1_4 =>
  bnd (sI M 1 (0 : Int32)) fun M7 =>
  if x1_4 ≤ 0 then
    fX12_see_30 n0 x1_4 M7
  else
    if (3 : Int32) = 0 then none else
    if (rem32 x1_4 (3 : Int32)) = 0 then
      if (48 : Int32) < x1_4 then
        fX12_see_30 n0 x1_4 M7
      else
        fX12_see_31 n0 x1_4 (1 : Int32) M7
    else
      fX12_see_30 n0 x1_4 M7
theorem tfX12_see_87 (n0 : Nat) (hO : OKc p (rmL 2) s m args meth c LY D cy ad cX12_see RX12 4 2 (some .int)) (k34 : Int32 → Int32 → Int32 → Mem → Option (Int32 × Mem)) (hk34 : ∀ (x1 : Int32) (x2 : Int32) (x3 : Int32) (M : Mem), BL p l e (rmL 2) s m args below meth c LY D cy ad 4 (QI LY D cy ad) 34 [(0, .ref (ad 0)), (1, .int x1), (2, .int x2), (3, .int x3)] [] M (k34 x1 x2 x3 M)) (x1 : Int32) (x3 : Int32) (u0 : Int32) (M : Mem) : BL p l e (rmL 2) s m args below meth c LY D cy ad 4 (QI LY D cy ad) 87 [(0, .ref (ad 0)), (1, .int x1), (3, .int x3)] [.int u0] M (fX12_see_87 n0 k34 x1 x3 u0 M) := by
  unfold fX12_see_87
  refine b_istore_n hO dX12_see_87 rfl (by decide) (lv' := [(2, .int _), (0, .ref _), (1, .int _), (3, .int _)]) rfl ?_
  refine b_iinc hO dX12_see_88 3 rfl ic_i_3 (by decide) (lv' := [(3, .int _), (2, .int _), (0, .ref _), (1, .int _)]) rfl ?_
  refine b_goto hO dX12_see_91 (tgt := 34) (by decide) ?_
  refine b_sub [2, 3, 1, 0] rfl ?_
  exact hk34 _ _ _ _
theorem tfX12_see_86 (n0 : Nat) (hO : OKc p (rmL 2) s m args meth c LY D cy ad cX12_see RX12 4 2 (some .int)) (k34 : Int32 → Int32 → Int32 → Mem → Option (Int32 × Mem)) (hk34 : ∀ (x1 : Int32) (x2 : Int32) (x3 : Int32) (M : Mem), BL p l e (rmL 2) s m args below meth c LY D cy ad 4 (QI LY D cy ad) 34 [(0, .ref (ad 0)), (1, .int x1), (2, .int x2), (3, .int x3)] [] M (k34 x1 x2 x3 M)) (x1 : Int32) (x3 : Int32) (M : Mem) : BL p l e (rmL 2) s m args below meth c LY D cy ad 4 (QI LY D cy ad) 86 [(0, .ref (ad 0)), (1, .int x1), (3, .int x3)] [] M (fX12_see_86 n0 k34 x1 x3 M) := by
  unfold fX12_see_86
  refine b_iconst hO dX12_see_86 ic_i_0 ?_
  exact tfX12_see_87 n0 hO k34 hk34 _ _ _ _
theorem tbX12_see_113 (n0 : Nat) (hO : OKc p (rmL 2) s m args meth c LY D cy ad cX12_see RX12 4 2 (some .int)) (k113 : Int32 → Mem → Option (Int32 × Mem)) (hk113 : ∀ (x3 : Int32) (M : Mem), BL p l e (rmL 2) s m args below meth c LY D cy ad 4 (QI LY D cy ad) 113 [(0, .ref (ad 0)), (3, .int x3)] [] M (k113 x3 M)) (x3 : Int32) (M : Mem) : BL p l e (rmL 2) s m args below meth c LY D cy ad 4 (QI LY D cy ad) 113 [(0, .ref (ad 0)), (3, .int x3)] [] M (bX12_see_113 n0 k113 x3 M) := by
  unfold bX12_see_113
  refine b_iload_n hO dX12_see_113 1 rfl rfl ?_
  refine b_aload_n hO dX12_see_114 0 rfl rfl ?_
  refine b_get hO flX12_198 kLY_0 (v := .int (gI _ 61)) rfl dX12_see_115 ?_
  refine b_icmp_ge hO dX12_see_118 (tgt := 173) (by decide) ?_ ?_
  · refine b_aload_n hO dX12_see_173 0 rfl rfl ?_
    refine b_get hO flX12_198 kLY_0 (v := .int (gI _ 61)) rfl dX12_see_174 ?_
    exact b_iret hO dX12_see_177
  · refine b_aload_n hO dX12_see_121 0 rfl rfl ?_
    refine b_get hO flX12_201 kLY_0 (v := .ref (ad 39)) rfl dX12_see_122 ?_
    refine b_iload_n hO dX12_see_125 1 rfl rfl ?_
    refine b_aload_n hO dX12_see_126 0 rfl rfl ?_
    refine b_get hO flX12_7 kLY_0 (v := .ref (ad 1)) rfl dX12_see_127 ?_
    refine b_iconst hO dX12_see_130 ic_i_3 ?_
    refine b_iload_n hO dX12_see_131 1 rfl rfl ?_
    refine b_imul hO dX12_see_132 ?_
    refine b_iald hO kLY_1 (n := 1800) rfl dX12_see_133 ?_
    refine b_iast hO kLY_39 (n := 16) rfl dX12_see_134 ?_
    refine b_bnd (fun M134 => ?_)
    refine b_aload_n hO dX12_see_135 0 rfl rfl ?_
    refine b_get hO flX12_204 kLY_0 (v := .ref (ad 40)) rfl dX12_see_136 ?_
    refine b_iload_n hO dX12_see_139 1 rfl rfl ?_
    refine b_aload_n hO dX12_see_140 0 rfl rfl ?_
    refine b_get hO flX12_7 kLY_0 (v := .ref (ad 1)) rfl dX12_see_141 ?_
    refine b_iconst hO dX12_see_144 ic_i_3 ?_
    refine b_iload_n hO dX12_see_145 1 rfl rfl ?_
    refine b_imul hO dX12_see_146 ?_
    refine b_iconst hO dX12_see_147 ic_i_1 ?_
    refine b_iadd hO dX12_see_148 ?_
    refine b_iald hO kLY_1 (n := 1800) rfl dX12_see_149 ?_
    refine b_iast hO kLY_40 (n := 16) rfl dX12_see_150 ?_
    refine b_bnd (fun M150 => ?_)
    refine b_aload_n hO dX12_see_151 0 rfl rfl ?_
    refine b_get hO flX12_207 kLY_0 (v := .ref (ad 41)) rfl dX12_see_152 ?_
    refine b_iload_n hO dX12_see_155 1 rfl rfl ?_
    refine b_aload_n hO dX12_see_156 0 rfl rfl ?_
    refine b_get hO flX12_7 kLY_0 (v := .ref (ad 1)) rfl dX12_see_157 ?_
    refine b_iconst hO dX12_see_160 ic_i_3 ?_
    refine b_iload_n hO dX12_see_161 1 rfl rfl ?_
    refine b_imul hO dX12_see_162 ?_
    refine b_iconst hO dX12_see_163 ic_i_2 ?_
    refine b_iadd hO dX12_see_164 ?_
    refine b_iald hO kLY_1 (n := 1800) rfl dX12_see_165 ?_
    refine b_iast hO kLY_41 (n := 16) rfl dX12_see_166 ?_
    refine b_bnd (fun M166 => ?_)
    refine b_iinc hO dX12_see_167 1 rfl ic_i_1 (by decide) (lv' := [(3, .int _), (0, .ref _)]) rfl ?_
    refine b_goto hO dX12_see_170 (tgt := 113) (by decide) ?_
    refine b_sub [1, 0] rfl ?_
    exact hk113 _ _
theorem lX12_see_113 (n0 : Nat) (hO : OKc p (rmL 2) s m args meth c LY D cy ad cX12_see RX12 4 2 (some .int)) : ∀ (w : Nat) (x3 : Int32) (M : Mem), BL p l e (rmL 2) s m args below meth c LY D cy ad 4 (QI LY D cy ad) 113 [(0, .ref (ad 0)), (3, .int x3)] [] M (loopN (bX12_see_113 n0) (fun _ _ => none) w x3 M) := by
  intro w
  induction w with
  | zero =>
    intros
    exact b_none
  | succ w ih =>
    intro x3 M
    exact tbX12_see_113 n0 hO _ ih x3 M
theorem tfX12_see_113 (n0 : Nat) (hO : OKc p (rmL 2) s m args meth c LY D cy ad cX12_see RX12 4 2 (some .int)) (x3 : Int32) (M : Mem) : BL p l e (rmL 2) s m args below meth c LY D cy ad 4 (QI LY D cy ad) 113 [(0, .ref (ad 0)), (3, .int x3)] [] M (fX12_see_113 n0 x3 M) := lX12_see_113 n0 hO n0 x3 M
theorem tfX12_see_94 (n0 : Nat) (hO : OKc p (rmL 2) s m args meth c LY D cy ad cX12_see RX12 4 2 (some .int)) (x1 : Int32) (x2 : Int32) (M : Mem) : BL p l e (rmL 2) s m args below meth c LY D cy ad 4 (QI LY D cy ad) 94 [(0, .ref (ad 0)), (1, .int x1), (2, .int x2)] [] M (fX12_see_94 n0 x1 x2 M) := by
  unfold fX12_see_94
  refine b_iload_n hO dX12_see_94 2 rfl rfl ?_
  refine b_if_ne hO dX12_see_95 (tgt := 104) (by decide) ?_ ?_
  · refine b_aload_n hO dX12_see_104 0 rfl rfl ?_
    refine b_iload_n hO dX12_see_105 1 rfl rfl ?_
    refine b_iconst hO dX12_see_106 ic_i_3 ?_
    refine b_idiv hO dX12_see_107 ?_
    refine b_putI hO flX12_198 kLY_0 rfl rfl rfl (id := 61) rfl dX12_see_108 ?_
    refine b_bnd (fun M108 => ?_)
    refine b_iconst hO dX12_see_111 ic_i_0 ?_
    refine b_istore_n hO dX12_see_112 rfl (by decide) (lv' := [(3, .int _), (0, .ref _), (1, .int _), (2, .int _)]) rfl ?_
    refine b_sub [1, 0] rfl ?_
    exact tfX12_see_113 n0 hO _ _
  · refine b_aload_n hO dX12_see_98 0 rfl rfl ?_
    refine b_iconst hO dX12_see_99 ic_i_5 ?_
    refine b_callVI hO mdX12_refuses mvX12_refuses w1453 (ci := 12) rfl rfl (by decide) kLY_0 (As := [.int _]) (st := []) (ctX12_refuses n0 hO.2.2.2.2.2.2.1 _ _) (Nat.le_of_ble_eq_true rfl) rfl rfl (Nat.le_of_ble_eq_true rfl) dX12_see_100 (fun z100 => ?_)
    exact b_iret hO dX12_see_103
theorem tbX12_see_34 (n0 : Nat) (hO : OKc p (rmL 2) s m args meth c LY D cy ad cX12_see RX12 4 2 (some .int)) (k34 : Int32 → Int32 → Int32 → Mem → Option (Int32 × Mem)) (hk34 : ∀ (x1 : Int32) (x2 : Int32) (x3 : Int32) (M : Mem), BL p l e (rmL 2) s m args below meth c LY D cy ad 4 (QI LY D cy ad) 34 [(0, .ref (ad 0)), (1, .int x1), (2, .int x2), (3, .int x3)] [] M (k34 x1 x2 x3 M)) (x1 : Int32) (x2 : Int32) (x3 : Int32) (M : Mem) : BL p l e (rmL 2) s m args below meth c LY D cy ad 4 (QI LY D cy ad) 34 [(0, .ref (ad 0)), (1, .int x1), (2, .int x2), (3, .int x3)] [] M (bX12_see_34 n0 k34 x1 x2 x3 M) := by
  unfold bX12_see_34
  refine b_iload_n hO dX12_see_34 3 rfl rfl ?_
  refine b_iload_n hO dX12_see_35 1 rfl rfl ?_
  refine b_icmp_ge hO dX12_see_36 (tgt := 94) (by decide) ?_ ?_
  · refine b_sub [0, 1, 2] rfl ?_
    exact tfX12_see_94 n0 hO _ _ _
  · refine b_iload_n hO dX12_see_39 2 rfl rfl ?_
    refine b_if_eq hO dX12_see_40 (tgt := 94) (by decide) ?_ ?_
    · refine b_sub [0, 1, 2] rfl ?_
      exact tfX12_see_94 n0 hO _ _ _
    · refine b_aload_n hO dX12_see_43 0 rfl rfl ?_
      refine b_get hO flX12_7 kLY_0 (v := .ref (ad 1)) rfl dX12_see_44 ?_
      refine b_iload_n hO dX12_see_47 3 rfl rfl ?_
      refine b_iald hO kLY_1 (n := 1800) rfl dX12_see_48 ?_
      refine b_bipush hO dX12_see_49 ic_b_40 ?_
      refine b_icmp_gt hO dX12_see_51 (tgt := 86) (by decide) ?_ ?_
      · refine b_sub [0, 1, 3] rfl ?_
        exact tfX12_see_86 n0 hO k34 hk34 _ _ _
      · refine b_aload_n hO dX12_see_54 0 rfl rfl ?_
        refine b_aload_n hO dX12_see_55 0 rfl rfl ?_
        refine b_get hO flX12_7 kLY_0 (v := .ref (ad 1)) rfl dX12_see_56 ?_
        refine b_iload_n hO dX12_see_59 3 rfl rfl ?_
        refine b_iconst hO dX12_see_60 ic_i_1 ?_
        refine b_iadd hO dX12_see_61 ?_
        refine b_iald hO kLY_1 (n := 1800) rfl dX12_see_62 ?_
        refine b_callVI hO mdX12_isCorner mvX12_isCorner w1733 (ci := 12) rfl rfl (by decide) kLY_0 (As := [.int _]) (st := []) (ctX12_isCorner n0 hO.2.2.2.2.2.2.1 _ _) (Nat.le_of_ble_eq_true rfl) rfl rfl (Nat.le_of_ble_eq_true rfl) dX12_see_63 (fun z63 => ?_)
        refine b_if_eq hO dX12_see_66 (tgt := 86) (by decide) ?_ ?_
        · refine b_sub [0, 1, 3] rfl ?_
          exact tfX12_see_86 n0 hO k34 hk34 _ _ _
        · refine b_aload_n hO dX12_see_69 0 rfl rfl ?_
          refine b_get hO flX12_7 kLY_0 (v := .ref (ad 1)) rfl dX12_see_70 ?_
          refine b_iload_n hO dX12_see_73 3 rfl rfl ?_
          refine b_iconst hO dX12_see_74 ic_i_2 ?_
          refine b_iadd hO dX12_see_75 ?_
          refine b_iald hO kLY_1 (n := 1800) rfl dX12_see_76 ?_
          refine b_bipush hO dX12_see_77 ic_b_23 ?_
          refine b_icmp_gt hO dX12_see_79 (tgt := 86) (by decide) ?_ ?_
          · refine b_sub [0, 1, 3] rfl ?_
            exact tfX12_see_86 n0 hO k34 hk34 _ _ _
          · refine b_iconst hO dX12_see_82 ic_i_1 ?_
            refine b_goto hO dX12_see_83 (tgt := 87) (by decide) ?_
            refine b_sub [0, 1, 3] rfl ?_
            exact tfX12_see_87 n0 hO k34 hk34 _ _ _ _
theorem lX12_see_34 (n0 : Nat) (hO : OKc p (rmL 2) s m args meth c LY D cy ad cX12_see RX12 4 2 (some .int)) : ∀ (w : Nat) (x1 : Int32) (x2 : Int32) (x3 : Int32) (M : Mem), BL p l e (rmL 2) s m args below meth c LY D cy ad 4 (QI LY D cy ad) 34 [(0, .ref (ad 0)), (1, .int x1), (2, .int x2), (3, .int x3)] [] M (loopN (bX12_see_34 n0) (fun _ _ _ _ => none) w x1 x2 x3 M) := by
  intro w
  induction w with
  | zero =>
    intros
    exact b_none
  | succ w ih =>
    intro x1 x2 x3 M
    exact tbX12_see_34 n0 hO _ ih x1 x2 x3 M
theorem tfX12_see_34 (n0 : Nat) (hO : OKc p (rmL 2) s m args meth c LY D cy ad cX12_see RX12 4 2 (some .int)) (x1 : Int32) (x2 : Int32) (x3 : Int32) (M : Mem) : BL p l e (rmL 2) s m args below meth c LY D cy ad 4 (QI LY D cy ad) 34 [(0, .ref (ad 0)), (1, .int x1), (2, .int x2), (3, .int x3)] [] M (fX12_see_34 n0 x1 x2 x3 M) := lX12_see_34 n0 hO n0 x1 x2 x3 M
theorem tfX12_see_31 (n0 : Nat) (hO : OKc p (rmL 2) s m args meth c LY D cy ad cX12_see RX12 4 2 (some .int)) (x1 : Int32) (u0 : Int32) (M : Mem) : BL p l e (rmL 2) s m args below meth c LY D cy ad 4 (QI LY D cy ad) 31 [(0, .ref (ad 0)), (1, .int x1)] [.int u0] M (fX12_see_31 n0 x1 u0 M) := by
  unfold fX12_see_31
  refine b_istore_n hO dX12_see_31 rfl (by decide) (lv' := [(2, .int _), (0, .ref _), (1, .int _)]) rfl ?_
  refine b_iconst hO dX12_see_32 ic_i_0 ?_
  refine b_istore_n hO dX12_see_33 rfl (by decide) (lv' := [(3, .int _), (2, .int _), (0, .ref _), (1, .int _)]) rfl ?_
  refine b_sub [2, 3, 1, 0] rfl ?_
  exact tfX12_see_34 n0 hO _ _ _ _
theorem tfX12_see_30 (n0 : Nat) (hO : OKc p (rmL 2) s m args meth c LY D cy ad cX12_see RX12 4 2 (some .int)) (x1 : Int32) (M : Mem) : BL p l e (rmL 2) s m args below meth c LY D cy ad 4 (QI LY D cy ad) 30 [(0, .ref (ad 0)), (1, .int x1)] [] M (fX12_see_30 n0 x1 M) := by
  unfold fX12_see_30
  refine b_iconst hO dX12_see_30 ic_i_0 ?_
  exact tfX12_see_31 n0 hO _ _ _
theorem tfX12_see (n0 : Nat) (hO : OKc p (rmL 2) s m args meth c LY D cy ad cX12_see RX12 4 2 (some .int)) (M : Mem) : BL p l e (rmL 2) s m args below meth c LY D cy ad 4 (QI LY D cy ad) 0 [(0, .ref (ad 0))] [] M (fX12_see n0 M) := by
  unfold fX12_see
  refine b_aload_n hO dX12_see_0 0 rfl rfl ?_
  refine b_get hO flX12_13 kLY_0 (v := .int (gI _ 1)) rfl dX12_see_1 ?_
  refine b_topI (fun x1_4 => ?_)
  refine b_istore_n hO dX12_see_4 rfl (by decide) (lv' := [(1, .int _), (0, .ref _)]) rfl ?_
  refine b_aload_n hO dX12_see_5 1 rfl rfl ?_
  refine b_iconst hO dX12_see_6 ic_i_0 ?_
  refine b_putI hO flX12_13 kLY_0 rfl rfl rfl (id := 1) rfl dX12_see_7 ?_
  refine b_bnd (fun M7 => ?_)
  refine b_iload_n hO dX12_see_10 0 rfl rfl ?_
  refine b_if_le hO dX12_see_11 (tgt := 30) (by decide) ?_ ?_
  · refine b_sub [1, 0] rfl ?_
    exact tfX12_see_30 n0 hO _ _
  · refine b_iload_n hO dX12_see_14 0 rfl rfl ?_
    refine b_iconst hO dX12_see_15 ic_i_3 ?_
    refine b_irem hO dX12_see_16 ?_
    refine b_if_ne hO dX12_see_17 (tgt := 30) (by decide) ?_ ?_
    · refine b_sub [1, 0] rfl ?_
      exact tfX12_see_30 n0 hO _ _
    · refine b_iload_n hO dX12_see_20 0 rfl rfl ?_
      refine b_bipush hO dX12_see_21 ic_b_48 ?_
      refine b_icmp_gt hO dX12_see_23 (tgt := 30) (by decide) ?_ ?_
      · refine b_sub [1, 0] rfl ?_
        exact tfX12_see_30 n0 hO _ _
      · refine b_iconst hO dX12_see_26 ic_i_1 ?_
        refine b_goto hO dX12_see_27 (tgt := 31) (by decide) ?_
        refine b_sub [1, 0] rfl ?_
        exact tfX12_see_31 n0 hO _ _ _
theorem ctX12_see (n0 : Nat) (hI : Inj LY ad) (M : Mem) : CT l LY D cy ad yX12_see cX12_see 4 (some .int) 2 (QI LY D cy ad) [.ref (ad 0)] M (fX12_see n0 M) :=
  CT.mk LYok hI (by decide) (Nat.le_of_ble_eq_true rfl) (fun hO => tfX12_see n0 hO M)
/-! X12_heldBits -/
def fX12_heldBits_121 (n0 : Nat) (k4 : Int32 → Int32 → Int32 → Mem → Option (Int32 × Mem)) (k36 : Int32 → Int32 → Int32 → Int32 → Int32 → Mem → Option (Int32 × Mem)) (k71 : Int32 → Int32 → Int32 → Int32 → Int32 → Int32 → Mem → Option (Int32 × Mem)) (x1 : Int32) (x2 : Int32) (x3 : Int32) (x5 : Int32) (x6 : Int32) (u0 : Int32) (u1 : Int32) (M : Mem) : Option (Int32 × Mem) :=
  bnd (u0 + u1) fun x4_122 =>
  k71 x1 x2 x3 x4_122 x5 (x6 + (1 : Int32)) M
def fX12_heldBits_120 (n0 : Nat) (k4 : Int32 → Int32 → Int32 → Mem → Option (Int32 × Mem)) (k36 : Int32 → Int32 → Int32 → Int32 → Int32 → Mem → Option (Int32 × Mem)) (k71 : Int32 → Int32 → Int32 → Int32 → Int32 → Int32 → Mem → Option (Int32 × Mem)) (x1 : Int32) (x2 : Int32) (x3 : Int32) (x5 : Int32) (x6 : Int32) (u0 : Int32) (M : Mem) : Option (Int32 × Mem) :=
  fX12_heldBits_121 n0 k4 k36 k71 x1 x2 x3 x5 x6 u0 (0 : Int32) M
def bX12_heldBits_71 (n0 : Nat) (k4 : Int32 → Int32 → Int32 → Mem → Option (Int32 × Mem)) (k36 : Int32 → Int32 → Int32 → Int32 → Int32 → Mem → Option (Int32 × Mem)) (k71 : Int32 → Int32 → Int32 → Int32 → Int32 → Int32 → Mem → Option (Int32 × Mem)) (x1 : Int32) (x2 : Int32) (x3 : Int32) (x4 : Int32) (x5 : Int32) (x6 : Int32) (M : Mem) : Option (Int32 × Mem) :=
  if (gI M 61) ≤ x6 then
    (fX12_ticks n0 (1 : Int32) M).bind fun z132 =>
    k36 x1 x2 x3 x4 (x5 + (1 : Int32)) z132
  else
    if oob x6 16 then none else
    if (gA M 39 (Int32.toNatClampNeg x6)) = x5 then
      if oob x6 16 then none else
      (fX12_hour n0 (1 : Int32) (gA M 40 (Int32.toNatClampNeg x6)) M).bind fun z103 =>
      if oob x6 16 then none else
      if z103.1 = (gA z103.2 41 (Int32.toNatClampNeg x6)) then
        fX12_heldBits_121 n0 k4 k36 k71 x1 x2 x3 x5 x6 x4 (1 : Int32) z103.2
      else
        fX12_heldBits_120 n0 k4 k36 k71 x1 x2 x3 x5 x6 x4 z103.2
    else
      fX12_heldBits_120 n0 k4 k36 k71 x1 x2 x3 x5 x6 x4 M
def fX12_heldBits_71 (n0 : Nat) (k4 : Int32 → Int32 → Int32 → Mem → Option (Int32 × Mem)) (k36 : Int32 → Int32 → Int32 → Int32 → Int32 → Mem → Option (Int32 × Mem)) : Int32 → Int32 → Int32 → Int32 → Int32 → Int32 → Mem → Option (Int32 × Mem) := loopN (bX12_heldBits_71 n0 k4 k36) (fun _ _ _ _ _ _ _ => none) n0
def fX12_heldBits_160 (n0 : Nat) (k4 : Int32 → Int32 → Int32 → Mem → Option (Int32 × Mem)) (x1 : Int32) (x3 : Int32) (u0 : Int32) (u1 : Int32) (M : Mem) : Option (Int32 × Mem) :=
  bnd (u0 ||| u1) fun x2_161 =>
  k4 x1 x2_161 (x3 + (1 : Int32)) M
def bX12_heldBits_36 (n0 : Nat) (k4 : Int32 → Int32 → Int32 → Mem → Option (Int32 × Mem)) (k36 : Int32 → Int32 → Int32 → Int32 → Int32 → Mem → Option (Int32 × Mem)) (x1 : Int32) (x2 : Int32) (x3 : Int32) (x4 : Int32) (x5 : Int32) (M : Mem) : Option (Int32 × Mem) :=
  (fX12_isAhead n0 x5 (0 : Int32) (40 : Int32) M).bind fun z42 =>
  if z42.1 = 0 then
    if x4 = (gI z42.2 61) then
      fX12_heldBits_160 n0 k4 x1 x3 x2 ((1 : Int32) <<< ((x3 + (1 : Int32)) &&& 31)) z42.2
    else
      fX12_heldBits_160 n0 k4 x1 x3 x2 (0 : Int32) z42.2
  else
    (fX12_hour n0 (1 : Int32) x1 z42.2).bind fun z64 =>
    if oob (((41 : Int32) * (x3 + (1 : Int32))) + x5) 287 then none else
    bnd (sA z64.2 42 (Int32.toNatClampNeg (((41 : Int32) * (x3 + (1 : Int32))) + x5)) z64.1) fun M67 =>
    fX12_heldBits_71 n0 k4 k36 x1 x2 x3 x4 x5 (0 : Int32) M67
def fX12_heldBits_36 (n0 : Nat) (k4 : Int32 → Int32 → Int32 → Mem → Option (Int32 × Mem)) : Int32 → Int32 → Int32 → Int32 → Int32 → Mem → Option (Int32 × Mem) := loopN (bX12_heldBits_36 n0 k4) (fun _ _ _ _ _ _ => none) n0
def bX12_heldBits_4 (n0 : Nat) (k4 : Int32 → Int32 → Int32 → Mem → Option (Int32 × Mem)) (x1 : Int32) (x2 : Int32) (x3 : Int32) (M : Mem) : Option (Int32 × Mem) :=
  if oob (gI M 13) 2 then none else
  if (gA M 2 (Int32.toNatClampNeg (gI M 13))) ≤ x3 then
    some (x2, M)
  else
    (fX12_copies n0 (1 : Int32) (0 : Int32) M).bind fun z20 =>
    (fX12_puts n0 (1 : Int32) x1 x3 z20).bind fun z27 =>
    fX12_heldBits_36 n0 k4 x1 x2 x3 (0 : Int32) (0 : Int32) z27
def fX12_heldBits_4 (n0 : Nat) : Int32 → Int32 → Int32 → Mem → Option (Int32 × Mem) := loopN (bX12_heldBits_4 n0) (fun _ _ _ _ => none) n0
def fX12_heldBits (n0 : Nat) (x1 : Int32) (M : Mem) : Option (Int32 × Mem) :=
  fX12_heldBits_4 n0 x1 (0 : Int32) (-1 : Int32) M
theorem tfX12_heldBits_121 (n0 : Nat) (hO : OKc p (rmL 6) s m args meth c LY D cy ad cX12_heldBits RX12 7 6 (some .int)) (k4 : Int32 → Int32 → Int32 → Mem → Option (Int32 × Mem)) (k36 : Int32 → Int32 → Int32 → Int32 → Int32 → Mem → Option (Int32 × Mem)) (k71 : Int32 → Int32 → Int32 → Int32 → Int32 → Int32 → Mem → Option (Int32 × Mem)) (hk4 : ∀ (x1 : Int32) (x2 : Int32) (x3 : Int32) (M : Mem), BL p l e (rmL 6) s m args below meth c LY D cy ad 7 (QI LY D cy ad) 4 [(0, .ref (ad 0)), (1, .int x1), (2, .int x2), (3, .int x3)] [] M (k4 x1 x2 x3 M)) (hk36 : ∀ (x1 : Int32) (x2 : Int32) (x3 : Int32) (x4 : Int32) (x5 : Int32) (M : Mem), BL p l e (rmL 6) s m args below meth c LY D cy ad 7 (QI LY D cy ad) 36 [(0, .ref (ad 0)), (1, .int x1), (2, .int x2), (3, .int x3), (4, .int x4), (5, .int x5)] [] M (k36 x1 x2 x3 x4 x5 M)) (hk71 : ∀ (x1 : Int32) (x2 : Int32) (x3 : Int32) (x4 : Int32) (x5 : Int32) (x6 : Int32) (M : Mem), BL p l e (rmL 6) s m args below meth c LY D cy ad 7 (QI LY D cy ad) 71 [(0, .ref (ad 0)), (1, .int x1), (2, .int x2), (3, .int x3), (4, .int x4), (5, .int x5), (6, .int x6)] [] M (k71 x1 x2 x3 x4 x5 x6 M)) (x1 : Int32) (x2 : Int32) (x3 : Int32) (x5 : Int32) (x6 : Int32) (u0 : Int32) (u1 : Int32) (M : Mem) : BL p l e (rmL 6) s m args below meth c LY D cy ad 7 (QI LY D cy ad) 121 [(0, .ref (ad 0)), (1, .int x1), (2, .int x2), (3, .int x3), (5, .int x5), (6, .int x6)] [.int u1, .int u0] M (fX12_heldBits_121 n0 k4 k36 k71 x1 x2 x3 x5 x6 u0 u1 M) := by
  unfold fX12_heldBits_121
  refine b_iadd hO dX12_heldBits_121 ?_
  refine b_topI (fun x4_122 => ?_)
  refine b_istore hO dX12_heldBits_122 (by decide) (lv' := [(4, .int _), (0, .ref _), (1, .int _), (2, .int _), (3, .int _), (5, .int _), (6, .int _)]) rfl ?_
  refine b_iinc hO dX12_heldBits_124 6 rfl ic_i_1 (by decide) (lv' := [(6, .int _), (4, .int _), (0, .ref _), (1, .int _), (2, .int _), (3, .int _), (5, .int _)]) rfl ?_
  refine b_goto hO dX12_heldBits_127 (tgt := 71) (by decide) ?_
  refine b_sub [2, 3, 4, 5, 1, 6, 0] rfl ?_
  exact hk71 _ _ _ _ _ _ _
theorem tfX12_heldBits_120 (n0 : Nat) (hO : OKc p (rmL 6) s m args meth c LY D cy ad cX12_heldBits RX12 7 6 (some .int)) (k4 : Int32 → Int32 → Int32 → Mem → Option (Int32 × Mem)) (k36 : Int32 → Int32 → Int32 → Int32 → Int32 → Mem → Option (Int32 × Mem)) (k71 : Int32 → Int32 → Int32 → Int32 → Int32 → Int32 → Mem → Option (Int32 × Mem)) (hk4 : ∀ (x1 : Int32) (x2 : Int32) (x3 : Int32) (M : Mem), BL p l e (rmL 6) s m args below meth c LY D cy ad 7 (QI LY D cy ad) 4 [(0, .ref (ad 0)), (1, .int x1), (2, .int x2), (3, .int x3)] [] M (k4 x1 x2 x3 M)) (hk36 : ∀ (x1 : Int32) (x2 : Int32) (x3 : Int32) (x4 : Int32) (x5 : Int32) (M : Mem), BL p l e (rmL 6) s m args below meth c LY D cy ad 7 (QI LY D cy ad) 36 [(0, .ref (ad 0)), (1, .int x1), (2, .int x2), (3, .int x3), (4, .int x4), (5, .int x5)] [] M (k36 x1 x2 x3 x4 x5 M)) (hk71 : ∀ (x1 : Int32) (x2 : Int32) (x3 : Int32) (x4 : Int32) (x5 : Int32) (x6 : Int32) (M : Mem), BL p l e (rmL 6) s m args below meth c LY D cy ad 7 (QI LY D cy ad) 71 [(0, .ref (ad 0)), (1, .int x1), (2, .int x2), (3, .int x3), (4, .int x4), (5, .int x5), (6, .int x6)] [] M (k71 x1 x2 x3 x4 x5 x6 M)) (x1 : Int32) (x2 : Int32) (x3 : Int32) (x5 : Int32) (x6 : Int32) (u0 : Int32) (M : Mem) : BL p l e (rmL 6) s m args below meth c LY D cy ad 7 (QI LY D cy ad) 120 [(0, .ref (ad 0)), (1, .int x1), (2, .int x2), (3, .int x3), (5, .int x5), (6, .int x6)] [.int u0] M (fX12_heldBits_120 n0 k4 k36 k71 x1 x2 x3 x5 x6 u0 M) := by
  unfold fX12_heldBits_120
  refine b_iconst hO dX12_heldBits_120 ic_i_0 ?_
  exact tfX12_heldBits_121 n0 hO k4 k36 k71 hk4 hk36 hk71 _ _ _ _ _ _ _ _
theorem tbX12_heldBits_71 (n0 : Nat) (hO : OKc p (rmL 6) s m args meth c LY D cy ad cX12_heldBits RX12 7 6 (some .int)) (k4 : Int32 → Int32 → Int32 → Mem → Option (Int32 × Mem)) (k36 : Int32 → Int32 → Int32 → Int32 → Int32 → Mem → Option (Int32 × Mem)) (k71 : Int32 → Int32 → Int32 → Int32 → Int32 → Int32 → Mem → Option (Int32 × Mem)) (hk4 : ∀ (x1 : Int32) (x2 : Int32) (x3 : Int32) (M : Mem), BL p l e (rmL 6) s m args below meth c LY D cy ad 7 (QI LY D cy ad) 4 [(0, .ref (ad 0)), (1, .int x1), (2, .int x2), (3, .int x3)] [] M (k4 x1 x2 x3 M)) (hk36 : ∀ (x1 : Int32) (x2 : Int32) (x3 : Int32) (x4 : Int32) (x5 : Int32) (M : Mem), BL p l e (rmL 6) s m args below meth c LY D cy ad 7 (QI LY D cy ad) 36 [(0, .ref (ad 0)), (1, .int x1), (2, .int x2), (3, .int x3), (4, .int x4), (5, .int x5)] [] M (k36 x1 x2 x3 x4 x5 M)) (hk71 : ∀ (x1 : Int32) (x2 : Int32) (x3 : Int32) (x4 : Int32) (x5 : Int32) (x6 : Int32) (M : Mem), BL p l e (rmL 6) s m args below meth c LY D cy ad 7 (QI LY D cy ad) 71 [(0, .ref (ad 0)), (1, .int x1), (2, .int x2), (3, .int x3), (4, .int x4), (5, .int x5), (6, .int x6)] [] M (k71 x1 x2 x3 x4 x5 x6 M)) (x1 : Int32) (x2 : Int32) (x3 : Int32) (x4 : Int32) (x5 : Int32) (x6 : Int32) (M : Mem) : BL p l e (rmL 6) s m args below meth c LY D cy ad 7 (QI LY D cy ad) 71 [(0, .ref (ad 0)), (1, .int x1), (2, .int x2), (3, .int x3), (4, .int x4), (5, .int x5), (6, .int x6)] [] M (bX12_heldBits_71 n0 k4 k36 k71 x1 x2 x3 x4 x5 x6 M) := by
  unfold bX12_heldBits_71
  refine b_iload hO dX12_heldBits_71 6 rfl ?_
  refine b_aload_n hO dX12_heldBits_73 0 rfl rfl ?_
  refine b_get hO flX12_198 kLY_0 (v := .int (gI _ 61)) rfl dX12_heldBits_74 ?_
  refine b_icmp_ge hO dX12_heldBits_77 (tgt := 130) (by decide) ?_ ?_
  · refine b_aload_n hO dX12_heldBits_130 0 rfl rfl ?_
    refine b_iconst hO dX12_heldBits_131 ic_i_1 ?_
    refine b_callVV hO mdX12_ticks mvX12_ticks w1757 (ci := 12) rfl rfl (by decide) kLY_0 (As := [.int _]) (st := []) (ctX12_ticks n0 hO.2.2.2.2.2.2.1 _ _) (Nat.le_of_ble_eq_true rfl) rfl rfl (Nat.le_of_ble_eq_true rfl) dX12_heldBits_132 (fun z132 => ?_)
    refine b_iinc hO dX12_heldBits_135 5 rfl ic_i_1 (by decide) (lv' := [(5, .int _), (0, .ref _), (1, .int _), (2, .int _), (3, .int _), (4, .int _), (6, .int _)]) rfl ?_
    refine b_goto hO dX12_heldBits_138 (tgt := 36) (by decide) ?_
    refine b_sub [1, 2, 3, 4, 5, 0] rfl ?_
    exact hk36 _ _ _ _ _ _
  · refine b_iload hO dX12_heldBits_80 4 rfl ?_
    refine b_aload_n hO dX12_heldBits_82 0 rfl rfl ?_
    refine b_get hO flX12_201 kLY_0 (v := .ref (ad 39)) rfl dX12_heldBits_83 ?_
    refine b_iload hO dX12_heldBits_86 6 rfl ?_
    refine b_iald hO kLY_39 (n := 16) rfl dX12_heldBits_88 ?_
    refine b_iload hO dX12_heldBits_89 5 rfl ?_
    refine b_icmp_ne hO dX12_heldBits_91 (tgt := 120) (by decide) ?_ ?_
    · refine b_sub [0, 1, 2, 3, 5, 6] rfl ?_
      exact tfX12_heldBits_120 n0 hO k4 k36 k71 hk4 hk36 hk71 _ _ _ _ _ _ _
    · refine b_aload_n hO dX12_heldBits_94 0 rfl rfl ?_
      refine b_iconst hO dX12_heldBits_95 ic_i_1 ?_
      refine b_aload_n hO dX12_heldBits_96 0 rfl rfl ?_
      refine b_get hO flX12_204 kLY_0 (v := .ref (ad 40)) rfl dX12_heldBits_97 ?_
      refine b_iload hO dX12_heldBits_100 6 rfl ?_
      refine b_iald hO kLY_40 (n := 16) rfl dX12_heldBits_102 ?_
      refine b_callVI hO mdX12_hour mvX12_hour w1657 (ci := 12) rfl rfl (by decide) kLY_0 (As := [.int _, .int _]) (st := [.int _]) (ctX12_hour n0 hO.2.2.2.2.2.2.1 _ _ _) (Nat.le_of_ble_eq_true rfl) rfl rfl (Nat.le_of_ble_eq_true rfl) dX12_heldBits_103 (fun z103 => ?_)
      refine b_aload_n hO dX12_heldBits_106 0 rfl rfl ?_
      refine b_get hO flX12_207 kLY_0 (v := .ref (ad 41)) rfl dX12_heldBits_107 ?_
      refine b_iload hO dX12_heldBits_110 6 rfl ?_
      refine b_iald hO kLY_41 (n := 16) rfl dX12_heldBits_112 ?_
      refine b_icmp_ne hO dX12_heldBits_113 (tgt := 120) (by decide) ?_ ?_
      · refine b_sub [0, 1, 2, 3, 5, 6] rfl ?_
        exact tfX12_heldBits_120 n0 hO k4 k36 k71 hk4 hk36 hk71 _ _ _ _ _ _ _
      · refine b_iconst hO dX12_heldBits_116 ic_i_1 ?_
        refine b_goto hO dX12_heldBits_117 (tgt := 121) (by decide) ?_
        refine b_sub [0, 1, 2, 3, 5, 6] rfl ?_
        exact tfX12_heldBits_121 n0 hO k4 k36 k71 hk4 hk36 hk71 _ _ _ _ _ _ _ _
theorem lX12_heldBits_71 (n0 : Nat) (hO : OKc p (rmL 6) s m args meth c LY D cy ad cX12_heldBits RX12 7 6 (some .int)) (k4 : Int32 → Int32 → Int32 → Mem → Option (Int32 × Mem)) (k36 : Int32 → Int32 → Int32 → Int32 → Int32 → Mem → Option (Int32 × Mem)) (hk4 : ∀ (x1 : Int32) (x2 : Int32) (x3 : Int32) (M : Mem), BL p l e (rmL 6) s m args below meth c LY D cy ad 7 (QI LY D cy ad) 4 [(0, .ref (ad 0)), (1, .int x1), (2, .int x2), (3, .int x3)] [] M (k4 x1 x2 x3 M)) (hk36 : ∀ (x1 : Int32) (x2 : Int32) (x3 : Int32) (x4 : Int32) (x5 : Int32) (M : Mem), BL p l e (rmL 6) s m args below meth c LY D cy ad 7 (QI LY D cy ad) 36 [(0, .ref (ad 0)), (1, .int x1), (2, .int x2), (3, .int x3), (4, .int x4), (5, .int x5)] [] M (k36 x1 x2 x3 x4 x5 M)) : ∀ (w : Nat) (x1 : Int32) (x2 : Int32) (x3 : Int32) (x4 : Int32) (x5 : Int32) (x6 : Int32) (M : Mem), BL p l e (rmL 6) s m args below meth c LY D cy ad 7 (QI LY D cy ad) 71 [(0, .ref (ad 0)), (1, .int x1), (2, .int x2), (3, .int x3), (4, .int x4), (5, .int x5), (6, .int x6)] [] M (loopN (bX12_heldBits_71 n0 k4 k36) (fun _ _ _ _ _ _ _ => none) w x1 x2 x3 x4 x5 x6 M) := by
  intro w
  induction w with
  | zero =>
    intros
    exact b_none
  | succ w ih =>
    intro x1 x2 x3 x4 x5 x6 M
    exact tbX12_heldBits_71 n0 hO k4 k36 _ hk4 hk36 ih x1 x2 x3 x4 x5 x6 M
theorem tfX12_heldBits_71 (n0 : Nat) (hO : OKc p (rmL 6) s m args meth c LY D cy ad cX12_heldBits RX12 7 6 (some .int)) (k4 : Int32 → Int32 → Int32 → Mem → Option (Int32 × Mem)) (k36 : Int32 → Int32 → Int32 → Int32 → Int32 → Mem → Option (Int32 × Mem)) (hk4 : ∀ (x1 : Int32) (x2 : Int32) (x3 : Int32) (M : Mem), BL p l e (rmL 6) s m args below meth c LY D cy ad 7 (QI LY D cy ad) 4 [(0, .ref (ad 0)), (1, .int x1), (2, .int x2), (3, .int x3)] [] M (k4 x1 x2 x3 M)) (hk36 : ∀ (x1 : Int32) (x2 : Int32) (x3 : Int32) (x4 : Int32) (x5 : Int32) (M : Mem), BL p l e (rmL 6) s m args below meth c LY D cy ad 7 (QI LY D cy ad) 36 [(0, .ref (ad 0)), (1, .int x1), (2, .int x2), (3, .int x3), (4, .int x4), (5, .int x5)] [] M (k36 x1 x2 x3 x4 x5 M)) (x1 : Int32) (x2 : Int32) (x3 : Int32) (x4 : Int32) (x5 : Int32) (x6 : Int32) (M : Mem) : BL p l e (rmL 6) s m args below meth c LY D cy ad 7 (QI LY D cy ad) 71 [(0, .ref (ad 0)), (1, .int x1), (2, .int x2), (3, .int x3), (4, .int x4), (5, .int x5), (6, .int x6)] [] M (fX12_heldBits_71 n0 k4 k36 x1 x2 x3 x4 x5 x6 M) := lX12_heldBits_71 n0 hO k4 k36 hk4 hk36 n0 x1 x2 x3 x4 x5 x6 M
theorem tfX12_heldBits_160 (n0 : Nat) (hO : OKc p (rmL 6) s m args meth c LY D cy ad cX12_heldBits RX12 7 6 (some .int)) (k4 : Int32 → Int32 → Int32 → Mem → Option (Int32 × Mem)) (hk4 : ∀ (x1 : Int32) (x2 : Int32) (x3 : Int32) (M : Mem), BL p l e (rmL 6) s m args below meth c LY D cy ad 7 (QI LY D cy ad) 4 [(0, .ref (ad 0)), (1, .int x1), (2, .int x2), (3, .int x3)] [] M (k4 x1 x2 x3 M)) (x1 : Int32) (x3 : Int32) (u0 : Int32) (u1 : Int32) (M : Mem) : BL p l e (rmL 6) s m args below meth c LY D cy ad 7 (QI LY D cy ad) 160 [(0, .ref (ad 0)), (1, .int x1), (3, .int x3)] [.int u1, .int u0] M (fX12_heldBits_160 n0 k4 x1 x3 u0 u1 M) := by
  unfold fX12_heldBits_160
  refine b_ior hO dX12_heldBits_160 ?_
  refine b_topI (fun x2_161 => ?_)
  refine b_istore_n hO dX12_heldBits_161 rfl (by decide) (lv' := [(2, .int _), (0, .ref _), (1, .int _), (3, .int _)]) rfl ?_
  refine b_iinc hO dX12_heldBits_162 3 rfl ic_i_1 (by decide) (lv' := [(3, .int _), (2, .int _), (0, .ref _), (1, .int _)]) rfl ?_
  refine b_goto hO dX12_heldBits_165 (tgt := 4) (by decide) ?_
  refine b_sub [2, 3, 1, 0] rfl ?_
  exact hk4 _ _ _ _
theorem tbX12_heldBits_36 (n0 : Nat) (hO : OKc p (rmL 6) s m args meth c LY D cy ad cX12_heldBits RX12 7 6 (some .int)) (k4 : Int32 → Int32 → Int32 → Mem → Option (Int32 × Mem)) (k36 : Int32 → Int32 → Int32 → Int32 → Int32 → Mem → Option (Int32 × Mem)) (hk4 : ∀ (x1 : Int32) (x2 : Int32) (x3 : Int32) (M : Mem), BL p l e (rmL 6) s m args below meth c LY D cy ad 7 (QI LY D cy ad) 4 [(0, .ref (ad 0)), (1, .int x1), (2, .int x2), (3, .int x3)] [] M (k4 x1 x2 x3 M)) (hk36 : ∀ (x1 : Int32) (x2 : Int32) (x3 : Int32) (x4 : Int32) (x5 : Int32) (M : Mem), BL p l e (rmL 6) s m args below meth c LY D cy ad 7 (QI LY D cy ad) 36 [(0, .ref (ad 0)), (1, .int x1), (2, .int x2), (3, .int x3), (4, .int x4), (5, .int x5)] [] M (k36 x1 x2 x3 x4 x5 M)) (x1 : Int32) (x2 : Int32) (x3 : Int32) (x4 : Int32) (x5 : Int32) (M : Mem) : BL p l e (rmL 6) s m args below meth c LY D cy ad 7 (QI LY D cy ad) 36 [(0, .ref (ad 0)), (1, .int x1), (2, .int x2), (3, .int x3), (4, .int x4), (5, .int x5)] [] M (bX12_heldBits_36 n0 k4 k36 x1 x2 x3 x4 x5 M) := by
  unfold bX12_heldBits_36
  refine b_aload_n hO dX12_heldBits_36 0 rfl rfl ?_
  refine b_iload hO dX12_heldBits_37 5 rfl ?_
  refine b_iconst hO dX12_heldBits_39 ic_i_0 ?_
  refine b_bipush hO dX12_heldBits_40 ic_b_40 ?_
  refine b_callVI hO mdX12_isAhead mvX12_isAhead w1749 (ci := 12) rfl rfl (by decide) kLY_0 (As := [.int _, .int _, .int _]) (st := []) (ctX12_isAhead n0 hO.2.2.2.2.2.2.1 _ _ _ _) (Nat.le_of_ble_eq_true rfl) rfl rfl (Nat.le_of_ble_eq_true rfl) dX12_heldBits_42 (fun z42 => ?_)
  refine b_if_eq hO dX12_heldBits_45 (tgt := 141) (by decide) ?_ ?_
  · refine b_iload_n hO dX12_heldBits_141 2 rfl rfl ?_
    refine b_iload hO dX12_heldBits_142 4 rfl ?_
    refine b_aload_n hO dX12_heldBits_144 0 rfl rfl ?_
    refine b_get hO flX12_198 kLY_0 (v := .int (gI _ 61)) rfl dX12_heldBits_145 ?_
    refine b_icmp_ne hO dX12_heldBits_148 (tgt := 159) (by decide) ?_ ?_
    · refine b_iconst hO dX12_heldBits_159 ic_i_0 ?_
      refine b_sub [0, 1, 3] rfl ?_
      exact tfX12_heldBits_160 n0 hO k4 hk4 _ _ _ _ _
    · refine b_iconst hO dX12_heldBits_151 ic_i_1 ?_
      refine b_iload_n hO dX12_heldBits_152 3 rfl rfl ?_
      refine b_iconst hO dX12_heldBits_153 ic_i_1 ?_
      refine b_iadd hO dX12_heldBits_154 ?_
      refine b_ishl hO dX12_heldBits_155 ?_
      refine b_goto hO dX12_heldBits_156 (tgt := 160) (by decide) ?_
      refine b_sub [0, 1, 3] rfl ?_
      exact tfX12_heldBits_160 n0 hO k4 hk4 _ _ _ _ _
  · refine b_aload_n hO dX12_heldBits_48 0 rfl rfl ?_
    refine b_get hO flX12_210 kLY_0 (v := .ref (ad 42)) rfl dX12_heldBits_49 ?_
    refine b_bipush hO dX12_heldBits_52 ic_b_41 ?_
    refine b_iload_n hO dX12_heldBits_54 3 rfl rfl ?_
    refine b_iconst hO dX12_heldBits_55 ic_i_1 ?_
    refine b_iadd hO dX12_heldBits_56 ?_
    refine b_imul hO dX12_heldBits_57 ?_
    refine b_iload hO dX12_heldBits_58 5 rfl ?_
    refine b_iadd hO dX12_heldBits_60 ?_
    refine b_aload_n hO dX12_heldBits_61 0 rfl rfl ?_
    refine b_iconst hO dX12_heldBits_62 ic_i_1 ?_
    refine b_iload_n hO dX12_heldBits_63 1 rfl rfl ?_
    refine b_callVI hO mdX12_hour mvX12_hour w1657 (ci := 12) rfl rfl (by decide) kLY_0 (As := [.int _, .int _]) (st := [.int _, .ref _]) (ctX12_hour n0 hO.2.2.2.2.2.2.1 _ _ _) (Nat.le_of_ble_eq_true rfl) rfl rfl (Nat.le_of_ble_eq_true rfl) dX12_heldBits_64 (fun z64 => ?_)
    refine b_iast hO kLY_42 (n := 287) rfl dX12_heldBits_67 ?_
    refine b_bnd (fun M67 => ?_)
    refine b_iconst hO dX12_heldBits_68 ic_i_0 ?_
    refine b_istore hO dX12_heldBits_69 (by decide) (lv' := [(6, .int _), (0, .ref _), (1, .int _), (2, .int _), (3, .int _), (4, .int _), (5, .int _)]) rfl ?_
    refine b_sub [1, 2, 3, 4, 5, 6, 0] rfl ?_
    exact tfX12_heldBits_71 n0 hO k4 k36 hk4 hk36 _ _ _ _ _ _ _
theorem lX12_heldBits_36 (n0 : Nat) (hO : OKc p (rmL 6) s m args meth c LY D cy ad cX12_heldBits RX12 7 6 (some .int)) (k4 : Int32 → Int32 → Int32 → Mem → Option (Int32 × Mem)) (hk4 : ∀ (x1 : Int32) (x2 : Int32) (x3 : Int32) (M : Mem), BL p l e (rmL 6) s m args below meth c LY D cy ad 7 (QI LY D cy ad) 4 [(0, .ref (ad 0)), (1, .int x1), (2, .int x2), (3, .int x3)] [] M (k4 x1 x2 x3 M)) : ∀ (w : Nat) (x1 : Int32) (x2 : Int32) (x3 : Int32) (x4 : Int32) (x5 : Int32) (M : Mem), BL p l e (rmL 6) s m args below meth c LY D cy ad 7 (QI LY D cy ad) 36 [(0, .ref (ad 0)), (1, .int x1), (2, .int x2), (3, .int x3), (4, .int x4), (5, .int x5)] [] M (loopN (bX12_heldBits_36 n0 k4) (fun _ _ _ _ _ _ => none) w x1 x2 x3 x4 x5 M) := by
  intro w
  induction w with
  | zero =>
    intros
    exact b_none
  | succ w ih =>
    intro x1 x2 x3 x4 x5 M
    exact tbX12_heldBits_36 n0 hO k4 _ hk4 ih x1 x2 x3 x4 x5 M
theorem tfX12_heldBits_36 (n0 : Nat) (hO : OKc p (rmL 6) s m args meth c LY D cy ad cX12_heldBits RX12 7 6 (some .int)) (k4 : Int32 → Int32 → Int32 → Mem → Option (Int32 × Mem)) (hk4 : ∀ (x1 : Int32) (x2 : Int32) (x3 : Int32) (M : Mem), BL p l e (rmL 6) s m args below meth c LY D cy ad 7 (QI LY D cy ad) 4 [(0, .ref (ad 0)), (1, .int x1), (2, .int x2), (3, .int x3)] [] M (k4 x1 x2 x3 M)) (x1 : Int32) (x2 : Int32) (x3 : Int32) (x4 : Int32) (x5 : Int32) (M : Mem) : BL p l e (rmL 6) s m args below meth c LY D cy ad 7 (QI LY D cy ad) 36 [(0, .ref (ad 0)), (1, .int x1), (2, .int x2), (3, .int x3), (4, .int x4), (5, .int x5)] [] M (fX12_heldBits_36 n0 k4 x1 x2 x3 x4 x5 M) := lX12_heldBits_36 n0 hO k4 hk4 n0 x1 x2 x3 x4 x5 M
theorem tbX12_heldBits_4 (n0 : Nat) (hO : OKc p (rmL 6) s m args meth c LY D cy ad cX12_heldBits RX12 7 6 (some .int)) (k4 : Int32 → Int32 → Int32 → Mem → Option (Int32 × Mem)) (hk4 : ∀ (x1 : Int32) (x2 : Int32) (x3 : Int32) (M : Mem), BL p l e (rmL 6) s m args below meth c LY D cy ad 7 (QI LY D cy ad) 4 [(0, .ref (ad 0)), (1, .int x1), (2, .int x2), (3, .int x3)] [] M (k4 x1 x2 x3 M)) (x1 : Int32) (x2 : Int32) (x3 : Int32) (M : Mem) : BL p l e (rmL 6) s m args below meth c LY D cy ad 7 (QI LY D cy ad) 4 [(0, .ref (ad 0)), (1, .int x1), (2, .int x2), (3, .int x3)] [] M (bX12_heldBits_4 n0 k4 x1 x2 x3 M) := by
  unfold bX12_heldBits_4
  refine b_iload_n hO dX12_heldBits_4 3 rfl rfl ?_
  refine b_aload_n hO dX12_heldBits_5 0 rfl rfl ?_
  refine b_get hO flX12_54 kLY_0 (v := .ref (ad 2)) rfl dX12_heldBits_6 ?_
  refine b_aload_n hO dX12_heldBits_9 0 rfl rfl ?_
  refine b_get hO flX12_51 kLY_0 (v := .int (gI _ 13)) rfl dX12_heldBits_10 ?_
  refine b_iald hO kLY_2 (n := 2) rfl dX12_heldBits_13 ?_
  refine b_icmp_ge hO dX12_heldBits_14 (tgt := 168) (by decide) ?_ ?_
  · refine b_iload_n hO dX12_heldBits_168 2 rfl rfl ?_
    exact b_iret hO dX12_heldBits_169
  · refine b_aload_n hO dX12_heldBits_17 0 rfl rfl ?_
    refine b_iconst hO dX12_heldBits_18 ic_i_1 ?_
    refine b_iconst hO dX12_heldBits_19 ic_i_0 ?_
    refine b_callVV hO mdX12_copies mvX12_copies w1705 (ci := 12) rfl rfl (by decide) kLY_0 (As := [.int _, .int _]) (st := []) (ctX12_copies n0 hO.2.2.2.2.2.2.1 _ _ _) (Nat.le_of_ble_eq_true rfl) rfl rfl (Nat.le_of_ble_eq_true rfl) dX12_heldBits_20 (fun z20 => ?_)
    refine b_aload_n hO dX12_heldBits_23 0 rfl rfl ?_
    refine b_iconst hO dX12_heldBits_24 ic_i_1 ?_
    refine b_iload_n hO dX12_heldBits_25 1 rfl rfl ?_
    refine b_iload_n hO dX12_heldBits_26 3 rfl rfl ?_
    refine b_callVV hO mdX12_puts mvX12_puts w1765 (ci := 12) rfl rfl (by decide) kLY_0 (As := [.int _, .int _, .int _]) (st := []) (ctX12_puts n0 hO.2.2.2.2.2.2.1 _ _ _ _) (Nat.le_of_ble_eq_true rfl) rfl rfl (Nat.le_of_ble_eq_true rfl) dX12_heldBits_27 (fun z27 => ?_)
    refine b_iconst hO dX12_heldBits_30 ic_i_0 ?_
    refine b_istore hO dX12_heldBits_31 (by decide) (lv' := [(4, .int _), (0, .ref _), (1, .int _), (2, .int _), (3, .int _)]) rfl ?_
    refine b_iconst hO dX12_heldBits_33 ic_i_0 ?_
    refine b_istore hO dX12_heldBits_34 (by decide) (lv' := [(5, .int _), (4, .int _), (0, .ref _), (1, .int _), (2, .int _), (3, .int _)]) rfl ?_
    refine b_sub [2, 3, 4, 5, 1, 0] rfl ?_
    exact tfX12_heldBits_36 n0 hO k4 hk4 _ _ _ _ _ _
theorem lX12_heldBits_4 (n0 : Nat) (hO : OKc p (rmL 6) s m args meth c LY D cy ad cX12_heldBits RX12 7 6 (some .int)) : ∀ (w : Nat) (x1 : Int32) (x2 : Int32) (x3 : Int32) (M : Mem), BL p l e (rmL 6) s m args below meth c LY D cy ad 7 (QI LY D cy ad) 4 [(0, .ref (ad 0)), (1, .int x1), (2, .int x2), (3, .int x3)] [] M (loopN (bX12_heldBits_4 n0) (fun _ _ _ _ => none) w x1 x2 x3 M) := by
  intro w
  induction w with
  | zero =>
    intros
    exact b_none
  | succ w ih =>
    intro x1 x2 x3 M
    exact tbX12_heldBits_4 n0 hO _ ih x1 x2 x3 M
theorem tfX12_heldBits_4 (n0 : Nat) (hO : OKc p (rmL 6) s m args meth c LY D cy ad cX12_heldBits RX12 7 6 (some .int)) (x1 : Int32) (x2 : Int32) (x3 : Int32) (M : Mem) : BL p l e (rmL 6) s m args below meth c LY D cy ad 7 (QI LY D cy ad) 4 [(0, .ref (ad 0)), (1, .int x1), (2, .int x2), (3, .int x3)] [] M (fX12_heldBits_4 n0 x1 x2 x3 M) := lX12_heldBits_4 n0 hO n0 x1 x2 x3 M
theorem tfX12_heldBits (n0 : Nat) (hO : OKc p (rmL 6) s m args meth c LY D cy ad cX12_heldBits RX12 7 6 (some .int)) (x1 : Int32) (M : Mem) : BL p l e (rmL 6) s m args below meth c LY D cy ad 7 (QI LY D cy ad) 0 [(0, .ref (ad 0)), (1, .int x1)] [] M (fX12_heldBits n0 x1 M) := by
  unfold fX12_heldBits
  refine b_iconst hO dX12_heldBits_0 ic_i_0 ?_
  refine b_istore_n hO dX12_heldBits_1 rfl (by decide) (lv' := [(2, .int _), (0, .ref _), (1, .int _)]) rfl ?_
  refine b_iconst hO dX12_heldBits_2 ic_i_m1 ?_
  refine b_istore_n hO dX12_heldBits_3 rfl (by decide) (lv' := [(3, .int _), (2, .int _), (0, .ref _), (1, .int _)]) rfl ?_
  refine b_sub [2, 3, 1, 0] rfl ?_
  exact tfX12_heldBits_4 n0 hO _ _ _ _
theorem ctX12_heldBits (n0 : Nat) (hI : Inj LY ad) (x1 : Int32) (M : Mem) : CT l LY D cy ad yX12_heldBits cX12_heldBits 7 (some .int) 6 (QI LY D cy ad) [.ref (ad 0), .int x1] M (fX12_heldBits n0 x1 M) :=
  CT.mk LYok hI (by decide) (Nat.le_of_ble_eq_true rfl) (fun hO => tfX12_heldBits n0 hO x1 M)
/-! X12_held -/
def fX12_held (n0 : Nat) (x1 : Int32) (M : Mem) : Option (Int32 × Mem) :=
  (fX12_isCorner n0 x1 M).bind fun z2 =>
  if z2.1 = 0 then
    some ((-1 : Int32), z2.2)
  else
    (fX12_heldBits n0 x1 z2.2).bind fun z10 =>
    some (z10.1, z10.2)
theorem tfX12_held (n0 : Nat) (hO : OKc p (rmL 7) s m args meth c LY D cy ad cX12_held RX12 2 7 (some .int)) (x1 : Int32) (M : Mem) : BL p l e (rmL 7) s m args below meth c LY D cy ad 2 (QI LY D cy ad) 0 [(0, .ref (ad 0)), (1, .int x1)] [] M (fX12_held n0 x1 M) := by
  unfold fX12_held
  refine b_aload_n hO dX12_held_0 0 rfl rfl ?_
  refine b_iload_n hO dX12_held_1 1 rfl rfl ?_
  refine b_callVI hO mdX12_isCorner mvX12_isCorner w1733 (ci := 12) rfl rfl (by decide) kLY_0 (As := [.int _]) (st := []) (ctX12_isCorner n0 hO.2.2.2.2.2.2.1 _ _) (Nat.le_of_ble_eq_true rfl) rfl rfl (Nat.le_of_ble_eq_true rfl) dX12_held_2 (fun z2 => ?_)
  refine b_if_eq hO dX12_held_5 (tgt := 16) (by decide) ?_ ?_
  · refine b_iconst hO dX12_held_16 ic_i_m1 ?_
    exact b_iret hO dX12_held_17
  · refine b_aload_n hO dX12_held_8 0 rfl rfl ?_
    refine b_iload_n hO dX12_held_9 1 rfl rfl ?_
    refine b_callVI hO mdX12_heldBits mvX12_heldBits w1816 (ci := 12) rfl rfl (by decide) kLY_0 (As := [.int _]) (st := []) (ctX12_heldBits n0 hO.2.2.2.2.2.2.1 _ _) (Nat.le_of_ble_eq_true rfl) rfl rfl (Nat.le_of_ble_eq_true rfl) dX12_held_10 (fun z10 => ?_)
    refine b_goto hO dX12_held_13 (tgt := 17) (by decide) ?_
    exact b_iret hO dX12_held_17
theorem ctX12_held (n0 : Nat) (hI : Inj LY ad) (x1 : Int32) (M : Mem) : CT l LY D cy ad yX12_held cX12_held 2 (some .int) 7 (QI LY D cy ad) [.ref (ad 0), .int x1] M (fX12_held n0 x1 M) :=
  CT.mk LYok hI (by decide) (Nat.le_of_ble_eq_true rfl) (fun hO => tfX12_held n0 hO x1 M)
/-! X12_tells -/
def fX12_tells_146 (n0 : Nat) (k36 : Int32 → Int32 → Int32 → Int32 → Int32 → Mem → Option (Int32 × Mem)) (k58 : Int32 → Int32 → Int32 → Int32 → Int32 → Int32 → Int32 → Mem → Option (Int32 × Mem)) (k78 : Int32 → Int32 → Int32 → Int32 → Int32 → Int32 → Int32 → Int32 → Int32 → Mem → Option (Int32 × Mem)) (x2 : Int32) (x3 : Int32) (x4 : Int32) (x5 : Int32) (x6 : Int32) (x7 : Int32) (x8 : Int32) (x10 : Int32) (u0 : Int32) (u1 : Int32) (M : Mem) : Option (Int32 × Mem) :=
  bnd (u0 + u1) fun x9_147 =>
  k78 x2 x3 x4 x5 x6 x7 x8 x9_147 (x10 + (1 : Int32)) M
def fX12_tells_145 (n0 : Nat) (k36 : Int32 → Int32 → Int32 → Int32 → Int32 → Mem → Option (Int32 × Mem)) (k58 : Int32 → Int32 → Int32 → Int32 → Int32 → Int32 → Int32 → Mem → Option (Int32 × Mem)) (k78 : Int32 → Int32 → Int32 → Int32 → Int32 → Int32 → Int32 → Int32 → Int32 → Mem → Option (Int32 × Mem)) (x2 : Int32) (x3 : Int32) (x4 : Int32) (x5 : Int32) (x6 : Int32) (x7 : Int32) (x8 : Int32) (x10 : Int32) (u0 : Int32) (M : Mem) : Option (Int32 × Mem) :=
  fX12_tells_146 n0 k36 k58 k78 x2 x3 x4 x5 x6 x7 x8 x10 u0 (0 : Int32) M
def fX12_tells_169 (n0 : Nat) (k36 : Int32 → Int32 → Int32 → Int32 → Int32 → Mem → Option (Int32 × Mem)) (k58 : Int32 → Int32 → Int32 → Int32 → Int32 → Int32 → Int32 → Mem → Option (Int32 × Mem)) (x2 : Int32) (x3 : Int32) (x4 : Int32) (x5 : Int32) (x6 : Int32) (x8 : Int32) (u0 : Int32) (M : Mem) : Option (Int32 × Mem) :=
  k58 x2 x3 x4 x5 x6 u0 (x8 + (1 : Int32)) M
def bX12_tells_78 (n0 : Nat) (k36 : Int32 → Int32 → Int32 → Int32 → Int32 → Mem → Option (Int32 × Mem)) (k58 : Int32 → Int32 → Int32 → Int32 → Int32 → Int32 → Int32 → Mem → Option (Int32 × Mem)) (k78 : Int32 → Int32 → Int32 → Int32 → Int32 → Int32 → Int32 → Int32 → Int32 → Mem → Option (Int32 × Mem)) (x2 : Int32) (x3 : Int32) (x4 : Int32) (x5 : Int32) (x6 : Int32) (x7 : Int32) (x8 : Int32) (x9 : Int32) (x10 : Int32) (M : Mem) : Option (Int32 × Mem) :=
  if oob (gI M 13) 2 then none else
  if (gA M 2 (Int32.toNatClampNeg (gI M 13))) < x10 then
    if x9 ≤ x7 then
      fX12_tells_169 n0 k36 k58 x2 x3 x4 x5 x6 x8 x7 M
    else
      fX12_tells_169 n0 k36 k58 x2 x3 x4 x5 x6 x8 x9 M
  else
    (fX12_has2 n0 x3 x8 M).bind fun z97 =>
    if z97.1 = 0 then
      fX12_tells_145 n0 k36 k58 k78 x2 x3 x4 x5 x6 x7 x8 x10 x9 z97.2
    else
      (fX12_has2 n0 x3 x10 z97.2).bind fun z106 =>
      if z106.1 = 0 then
        fX12_tells_145 n0 k36 k58 k78 x2 x3 x4 x5 x6 x7 x8 x10 x9 z106.2
      else
        if oob (((41 : Int32) * x8) + x6) 287 then none else
        if oob (((41 : Int32) * x10) + x6) 287 then none else
        if (gA z106.2 42 (Int32.toNatClampNeg (((41 : Int32) * x8) + x6))) = (gA z106.2 42 (Int32.toNatClampNeg (((41 : Int32) * x10) + x6))) then
          fX12_tells_146 n0 k36 k58 k78 x2 x3 x4 x5 x6 x7 x8 x10 x9 (1 : Int32) z106.2
        else
          fX12_tells_145 n0 k36 k58 k78 x2 x3 x4 x5 x6 x7 x8 x10 x9 z106.2
def fX12_tells_78 (n0 : Nat) (k36 : Int32 → Int32 → Int32 → Int32 → Int32 → Mem → Option (Int32 × Mem)) (k58 : Int32 → Int32 → Int32 → Int32 → Int32 → Int32 → Int32 → Mem → Option (Int32 × Mem)) : Int32 → Int32 → Int32 → Int32 → Int32 → Int32 → Int32 → Int32 → Int32 → Mem → Option (Int32 × Mem) := loopN (bX12_tells_78 n0 k36 k58) (fun _ _ _ _ _ _ _ _ _ _ => none) n0
def fX12_tells_195 (n0 : Nat) (k36 : Int32 → Int32 → Int32 → Int32 → Int32 → Mem → Option (Int32 × Mem)) (x2 : Int32) (x3 : Int32) (x4 : Int32) (x5 : Int32) (x6 : Int32) (M : Mem) : Option (Int32 × Mem) :=
  k36 x2 x3 x4 x5 (x6 + (1 : Int32)) M
def bX12_tells_58 (n0 : Nat) (k36 : Int32 → Int32 → Int32 → Int32 → Int32 → Mem → Option (Int32 × Mem)) (k58 : Int32 → Int32 → Int32 → Int32 → Int32 → Int32 → Int32 → Mem → Option (Int32 × Mem)) (x2 : Int32) (x3 : Int32) (x4 : Int32) (x5 : Int32) (x6 : Int32) (x7 : Int32) (x8 : Int32) (M : Mem) : Option (Int32 × Mem) :=
  if oob (gI M 13) 2 then none else
  if (gA M 2 (Int32.toNatClampNeg (gI M 13))) < x8 then
    if x7 < x5 then
      fX12_tells_195 n0 k36 x2 x3 x6 x7 x6 M
    else
      fX12_tells_195 n0 k36 x2 x3 x4 x5 x6 M
  else
    fX12_tells_78 n0 k36 k58 x2 x3 x4 x5 x6 x7 x8 (0 : Int32) (0 : Int32) M
def fX12_tells_58 (n0 : Nat) (k36 : Int32 → Int32 → Int32 → Int32 → Int32 → Mem → Option (Int32 × Mem)) : Int32 → Int32 → Int32 → Int32 → Int32 → Int32 → Int32 → Mem → Option (Int32 × Mem) := loopN (bX12_tells_58 n0 k36) (fun _ _ _ _ _ _ _ _ => none) n0
def fX12_tells_201 (n0 : Nat) (x2 : Int32) (x4 : Int32) (x5 : Int32) (M : Mem) : Option (Int32 × Mem) :=
  if x4 = (-1 : Int32) then
    some (x4, M)
  else
    if x2 = 0 then
      some (x4, M)
    else
      some (x5, M)
def bX12_tells_36 (n0 : Nat) (k36 : Int32 → Int32 → Int32 → Int32 → Int32 → Mem → Option (Int32 × Mem)) (x2 : Int32) (x3 : Int32) (x4 : Int32) (x5 : Int32) (x6 : Int32) (M : Mem) : Option (Int32 × Mem) :=
  (fX12_isAhead n0 x6 (0 : Int32) (40 : Int32) M).bind fun z42 =>
  if z42.1 = 0 then
    fX12_tells_201 n0 x2 x4 x5 z42.2
  else
    if x3 = 0 then
      fX12_tells_201 n0 x2 x4 x5 z42.2
    else
      fX12_tells_58 n0 k36 x2 x3 x4 x5 x6 (0 : Int32) (0 : Int32) z42.2
def fX12_tells_36 (n0 : Nat) : Int32 → Int32 → Int32 → Int32 → Int32 → Mem → Option (Int32 × Mem) := loopN (bX12_tells_36 n0) (fun _ _ _ _ _ _ => none) n0
def fX12_tells (n0 : Nat) (x1 : Int32) (x2 : Int32) (M : Mem) : Option (Int32 × Mem) :=
  (fX12_isCorner n0 x1 M).bind fun z2 =>
  if z2.1 = 0 then
    some ((-1 : Int32), z2.2)
  else
    (fX12_is n0 x2 (0 : Int32) (1 : Int32) z2.2).bind fun z11 =>
    if z11.1 = 0 then
      some ((-1 : Int32), z11.2)
    else
      (fX12_heldBits n0 x1 z11.2).bind fun z21 =>
      fX12_tells_36 n0 x2 z21.1 (-1 : Int32) (100000000 : Int32) (0 : Int32) z21.2
theorem tfX12_tells_146 (n0 : Nat) (hO : OKc p (rmL 7) s m args meth c LY D cy ad cX12_tells RX12 11 7 (some .int)) (k36 : Int32 → Int32 → Int32 → Int32 → Int32 → Mem → Option (Int32 × Mem)) (k58 : Int32 → Int32 → Int32 → Int32 → Int32 → Int32 → Int32 → Mem → Option (Int32 × Mem)) (k78 : Int32 → Int32 → Int32 → Int32 → Int32 → Int32 → Int32 → Int32 → Int32 → Mem → Option (Int32 × Mem)) (hk36 : ∀ (x2 : Int32) (x3 : Int32) (x4 : Int32) (x5 : Int32) (x6 : Int32) (M : Mem), BL p l e (rmL 7) s m args below meth c LY D cy ad 11 (QI LY D cy ad) 36 [(0, .ref (ad 0)), (2, .int x2), (3, .int x3), (4, .int x4), (5, .int x5), (6, .int x6)] [] M (k36 x2 x3 x4 x5 x6 M)) (hk58 : ∀ (x2 : Int32) (x3 : Int32) (x4 : Int32) (x5 : Int32) (x6 : Int32) (x7 : Int32) (x8 : Int32) (M : Mem), BL p l e (rmL 7) s m args below meth c LY D cy ad 11 (QI LY D cy ad) 58 [(0, .ref (ad 0)), (2, .int x2), (3, .int x3), (4, .int x4), (5, .int x5), (6, .int x6), (7, .int x7), (8, .int x8)] [] M (k58 x2 x3 x4 x5 x6 x7 x8 M)) (hk78 : ∀ (x2 : Int32) (x3 : Int32) (x4 : Int32) (x5 : Int32) (x6 : Int32) (x7 : Int32) (x8 : Int32) (x9 : Int32) (x10 : Int32) (M : Mem), BL p l e (rmL 7) s m args below meth c LY D cy ad 11 (QI LY D cy ad) 78 [(0, .ref (ad 0)), (2, .int x2), (3, .int x3), (4, .int x4), (5, .int x5), (6, .int x6), (7, .int x7), (8, .int x8), (9, .int x9), (10, .int x10)] [] M (k78 x2 x3 x4 x5 x6 x7 x8 x9 x10 M)) (x2 : Int32) (x3 : Int32) (x4 : Int32) (x5 : Int32) (x6 : Int32) (x7 : Int32) (x8 : Int32) (x10 : Int32) (u0 : Int32) (u1 : Int32) (M : Mem) : BL p l e (rmL 7) s m args below meth c LY D cy ad 11 (QI LY D cy ad) 146 [(0, .ref (ad 0)), (2, .int x2), (3, .int x3), (4, .int x4), (5, .int x5), (6, .int x6), (7, .int x7), (8, .int x8), (10, .int x10)] [.int u1, .int u0] M (fX12_tells_146 n0 k36 k58 k78 x2 x3 x4 x5 x6 x7 x8 x10 u0 u1 M) := by
  unfold fX12_tells_146
  refine b_iadd hO dX12_tells_146 ?_
  refine b_topI (fun x9_147 => ?_)
  refine b_istore hO dX12_tells_147 (by decide) (lv' := [(9, .int _), (0, .ref _), (2, .int _), (3, .int _), (4, .int _), (5, .int _), (6, .int _), (7, .int _), (8, .int _), (10, .int _)]) rfl ?_
  refine b_iinc hO dX12_tells_149 9 rfl ic_i_1 (by decide) (lv' := [(10, .int _), (9, .int _), (0, .ref _), (2, .int _), (3, .int _), (4, .int _), (5, .int _), (6, .int _), (7, .int _), (8, .int _)]) rfl ?_
  refine b_goto hO dX12_tells_152 (tgt := 78) (by decide) ?_
  refine b_sub [2, 3, 4, 5, 6, 7, 8, 9, 1, 0] rfl ?_
  exact hk78 _ _ _ _ _ _ _ _ _ _
theorem tfX12_tells_145 (n0 : Nat) (hO : OKc p (rmL 7) s m args meth c LY D cy ad cX12_tells RX12 11 7 (some .int)) (k36 : Int32 → Int32 → Int32 → Int32 → Int32 → Mem → Option (Int32 × Mem)) (k58 : Int32 → Int32 → Int32 → Int32 → Int32 → Int32 → Int32 → Mem → Option (Int32 × Mem)) (k78 : Int32 → Int32 → Int32 → Int32 → Int32 → Int32 → Int32 → Int32 → Int32 → Mem → Option (Int32 × Mem)) (hk36 : ∀ (x2 : Int32) (x3 : Int32) (x4 : Int32) (x5 : Int32) (x6 : Int32) (M : Mem), BL p l e (rmL 7) s m args below meth c LY D cy ad 11 (QI LY D cy ad) 36 [(0, .ref (ad 0)), (2, .int x2), (3, .int x3), (4, .int x4), (5, .int x5), (6, .int x6)] [] M (k36 x2 x3 x4 x5 x6 M)) (hk58 : ∀ (x2 : Int32) (x3 : Int32) (x4 : Int32) (x5 : Int32) (x6 : Int32) (x7 : Int32) (x8 : Int32) (M : Mem), BL p l e (rmL 7) s m args below meth c LY D cy ad 11 (QI LY D cy ad) 58 [(0, .ref (ad 0)), (2, .int x2), (3, .int x3), (4, .int x4), (5, .int x5), (6, .int x6), (7, .int x7), (8, .int x8)] [] M (k58 x2 x3 x4 x5 x6 x7 x8 M)) (hk78 : ∀ (x2 : Int32) (x3 : Int32) (x4 : Int32) (x5 : Int32) (x6 : Int32) (x7 : Int32) (x8 : Int32) (x9 : Int32) (x10 : Int32) (M : Mem), BL p l e (rmL 7) s m args below meth c LY D cy ad 11 (QI LY D cy ad) 78 [(0, .ref (ad 0)), (2, .int x2), (3, .int x3), (4, .int x4), (5, .int x5), (6, .int x6), (7, .int x7), (8, .int x8), (9, .int x9), (10, .int x10)] [] M (k78 x2 x3 x4 x5 x6 x7 x8 x9 x10 M)) (x2 : Int32) (x3 : Int32) (x4 : Int32) (x5 : Int32) (x6 : Int32) (x7 : Int32) (x8 : Int32) (x10 : Int32) (u0 : Int32) (M : Mem) : BL p l e (rmL 7) s m args below meth c LY D cy ad 11 (QI LY D cy ad) 145 [(0, .ref (ad 0)), (2, .int x2), (3, .int x3), (4, .int x4), (5, .int x5), (6, .int x6), (7, .int x7), (8, .int x8), (10, .int x10)] [.int u0] M (fX12_tells_145 n0 k36 k58 k78 x2 x3 x4 x5 x6 x7 x8 x10 u0 M) := by
  unfold fX12_tells_145
  refine b_iconst hO dX12_tells_145 ic_i_0 ?_
  exact tfX12_tells_146 n0 hO k36 k58 k78 hk36 hk58 hk78 _ _ _ _ _ _ _ _ _ _ _
theorem tfX12_tells_169 (n0 : Nat) (hO : OKc p (rmL 7) s m args meth c LY D cy ad cX12_tells RX12 11 7 (some .int)) (k36 : Int32 → Int32 → Int32 → Int32 → Int32 → Mem → Option (Int32 × Mem)) (k58 : Int32 → Int32 → Int32 → Int32 → Int32 → Int32 → Int32 → Mem → Option (Int32 × Mem)) (hk36 : ∀ (x2 : Int32) (x3 : Int32) (x4 : Int32) (x5 : Int32) (x6 : Int32) (M : Mem), BL p l e (rmL 7) s m args below meth c LY D cy ad 11 (QI LY D cy ad) 36 [(0, .ref (ad 0)), (2, .int x2), (3, .int x3), (4, .int x4), (5, .int x5), (6, .int x6)] [] M (k36 x2 x3 x4 x5 x6 M)) (hk58 : ∀ (x2 : Int32) (x3 : Int32) (x4 : Int32) (x5 : Int32) (x6 : Int32) (x7 : Int32) (x8 : Int32) (M : Mem), BL p l e (rmL 7) s m args below meth c LY D cy ad 11 (QI LY D cy ad) 58 [(0, .ref (ad 0)), (2, .int x2), (3, .int x3), (4, .int x4), (5, .int x5), (6, .int x6), (7, .int x7), (8, .int x8)] [] M (k58 x2 x3 x4 x5 x6 x7 x8 M)) (x2 : Int32) (x3 : Int32) (x4 : Int32) (x5 : Int32) (x6 : Int32) (x8 : Int32) (u0 : Int32) (M : Mem) : BL p l e (rmL 7) s m args below meth c LY D cy ad 11 (QI LY D cy ad) 169 [(0, .ref (ad 0)), (2, .int x2), (3, .int x3), (4, .int x4), (5, .int x5), (6, .int x6), (8, .int x8)] [.int u0] M (fX12_tells_169 n0 k36 k58 x2 x3 x4 x5 x6 x8 u0 M) := by
  unfold fX12_tells_169
  refine b_istore hO dX12_tells_169 (by decide) (lv' := [(7, .int _), (0, .ref _), (2, .int _), (3, .int _), (4, .int _), (5, .int _), (6, .int _), (8, .int _)]) rfl ?_
  refine b_iinc hO dX12_tells_171 7 rfl ic_i_1 (by decide) (lv' := [(8, .int _), (7, .int _), (0, .ref _), (2, .int _), (3, .int _), (4, .int _), (5, .int _), (6, .int _)]) rfl ?_
  refine b_goto hO dX12_tells_174 (tgt := 58) (by decide) ?_
  refine b_sub [2, 3, 4, 5, 6, 7, 1, 0] rfl ?_
  exact hk58 _ _ _ _ _ _ _ _
theorem tbX12_tells_78 (n0 : Nat) (hO : OKc p (rmL 7) s m args meth c LY D cy ad cX12_tells RX12 11 7 (some .int)) (k36 : Int32 → Int32 → Int32 → Int32 → Int32 → Mem → Option (Int32 × Mem)) (k58 : Int32 → Int32 → Int32 → Int32 → Int32 → Int32 → Int32 → Mem → Option (Int32 × Mem)) (k78 : Int32 → Int32 → Int32 → Int32 → Int32 → Int32 → Int32 → Int32 → Int32 → Mem → Option (Int32 × Mem)) (hk36 : ∀ (x2 : Int32) (x3 : Int32) (x4 : Int32) (x5 : Int32) (x6 : Int32) (M : Mem), BL p l e (rmL 7) s m args below meth c LY D cy ad 11 (QI LY D cy ad) 36 [(0, .ref (ad 0)), (2, .int x2), (3, .int x3), (4, .int x4), (5, .int x5), (6, .int x6)] [] M (k36 x2 x3 x4 x5 x6 M)) (hk58 : ∀ (x2 : Int32) (x3 : Int32) (x4 : Int32) (x5 : Int32) (x6 : Int32) (x7 : Int32) (x8 : Int32) (M : Mem), BL p l e (rmL 7) s m args below meth c LY D cy ad 11 (QI LY D cy ad) 58 [(0, .ref (ad 0)), (2, .int x2), (3, .int x3), (4, .int x4), (5, .int x5), (6, .int x6), (7, .int x7), (8, .int x8)] [] M (k58 x2 x3 x4 x5 x6 x7 x8 M)) (hk78 : ∀ (x2 : Int32) (x3 : Int32) (x4 : Int32) (x5 : Int32) (x6 : Int32) (x7 : Int32) (x8 : Int32) (x9 : Int32) (x10 : Int32) (M : Mem), BL p l e (rmL 7) s m args below meth c LY D cy ad 11 (QI LY D cy ad) 78 [(0, .ref (ad 0)), (2, .int x2), (3, .int x3), (4, .int x4), (5, .int x5), (6, .int x6), (7, .int x7), (8, .int x8), (9, .int x9), (10, .int x10)] [] M (k78 x2 x3 x4 x5 x6 x7 x8 x9 x10 M)) (x2 : Int32) (x3 : Int32) (x4 : Int32) (x5 : Int32) (x6 : Int32) (x7 : Int32) (x8 : Int32) (x9 : Int32) (x10 : Int32) (M : Mem) : BL p l e (rmL 7) s m args below meth c LY D cy ad 11 (QI LY D cy ad) 78 [(0, .ref (ad 0)), (2, .int x2), (3, .int x3), (4, .int x4), (5, .int x5), (6, .int x6), (7, .int x7), (8, .int x8), (9, .int x9), (10, .int x10)] [] M (bX12_tells_78 n0 k36 k58 k78 x2 x3 x4 x5 x6 x7 x8 x9 x10 M) := by
  unfold bX12_tells_78
  refine b_iload hO dX12_tells_78 9 rfl ?_
  refine b_aload_n hO dX12_tells_80 0 rfl rfl ?_
  refine b_get hO flX12_54 kLY_0 (v := .ref (ad 2)) rfl dX12_tells_81 ?_
  refine b_aload_n hO dX12_tells_84 0 rfl rfl ?_
  refine b_get hO flX12_51 kLY_0 (v := .int (gI _ 13)) rfl dX12_tells_85 ?_
  refine b_iald hO kLY_2 (n := 2) rfl dX12_tells_88 ?_
  refine b_icmp_gt hO dX12_tells_89 (tgt := 155) (by decide) ?_ ?_
  · refine b_iload hO dX12_tells_155 8 rfl ?_
    refine b_iload hO dX12_tells_157 6 rfl ?_
    refine b_icmp_le hO dX12_tells_159 (tgt := 167) (by decide) ?_ ?_
    · refine b_iload hO dX12_tells_167 6 rfl ?_
      refine b_sub [0, 1, 2, 3, 4, 5, 7] rfl ?_
      exact tfX12_tells_169 n0 hO k36 k58 hk36 hk58 _ _ _ _ _ _ _ _
    · refine b_iload hO dX12_tells_162 8 rfl ?_
      refine b_goto hO dX12_tells_164 (tgt := 169) (by decide) ?_
      refine b_sub [0, 1, 2, 3, 4, 5, 7] rfl ?_
      exact tfX12_tells_169 n0 hO k36 k58 hk36 hk58 _ _ _ _ _ _ _ _
  · refine b_iload hO dX12_tells_92 8 rfl ?_
    refine b_iload_n hO dX12_tells_94 2 rfl rfl ?_
    refine b_iload hO dX12_tells_95 7 rfl ?_
    refine b_callSI hO mdX12_has2 w1576 w1575 (As := [.int _, .int _]) (st := [.int _]) (ctX12_has2 n0 hO.2.2.2.2.2.2.1 _ _ _) (Nat.le_of_ble_eq_true rfl) rfl rfl (Nat.le_of_ble_eq_true rfl) dX12_tells_97 (fun z97 => ?_)
    refine b_if_eq hO dX12_tells_100 (tgt := 145) (by decide) ?_ ?_
    · refine b_sub [0, 1, 2, 3, 4, 5, 6, 7, 9] rfl ?_
      exact tfX12_tells_145 n0 hO k36 k58 k78 hk36 hk58 hk78 _ _ _ _ _ _ _ _ _ _
    · refine b_iload_n hO dX12_tells_103 2 rfl rfl ?_
      refine b_iload hO dX12_tells_104 9 rfl ?_
      refine b_callSI hO mdX12_has2 w1576 w1575 (As := [.int _, .int _]) (st := [.int _]) (ctX12_has2 n0 hO.2.2.2.2.2.2.1 _ _ _) (Nat.le_of_ble_eq_true rfl) rfl rfl (Nat.le_of_ble_eq_true rfl) dX12_tells_106 (fun z106 => ?_)
      refine b_if_eq hO dX12_tells_109 (tgt := 145) (by decide) ?_ ?_
      · refine b_sub [0, 1, 2, 3, 4, 5, 6, 7, 9] rfl ?_
        exact tfX12_tells_145 n0 hO k36 k58 k78 hk36 hk58 hk78 _ _ _ _ _ _ _ _ _ _
      · refine b_aload_n hO dX12_tells_112 0 rfl rfl ?_
        refine b_get hO flX12_210 kLY_0 (v := .ref (ad 42)) rfl dX12_tells_113 ?_
        refine b_bipush hO dX12_tells_116 ic_b_41 ?_
        refine b_iload hO dX12_tells_118 7 rfl ?_
        refine b_imul hO dX12_tells_120 ?_
        refine b_iload hO dX12_tells_121 5 rfl ?_
        refine b_iadd hO dX12_tells_123 ?_
        refine b_iald hO kLY_42 (n := 287) rfl dX12_tells_124 ?_
        refine b_aload_n hO dX12_tells_125 0 rfl rfl ?_
        refine b_get hO flX12_210 kLY_0 (v := .ref (ad 42)) rfl dX12_tells_126 ?_
        refine b_bipush hO dX12_tells_129 ic_b_41 ?_
        refine b_iload hO dX12_tells_131 9 rfl ?_
        refine b_imul hO dX12_tells_133 ?_
        refine b_iload hO dX12_tells_134 5 rfl ?_
        refine b_iadd hO dX12_tells_136 ?_
        refine b_iald hO kLY_42 (n := 287) rfl dX12_tells_137 ?_
        refine b_icmp_ne hO dX12_tells_138 (tgt := 145) (by decide) ?_ ?_
        · refine b_sub [0, 1, 2, 3, 4, 5, 6, 7, 9] rfl ?_
          exact tfX12_tells_145 n0 hO k36 k58 k78 hk36 hk58 hk78 _ _ _ _ _ _ _ _ _ _
        · refine b_iconst hO dX12_tells_141 ic_i_1 ?_
          refine b_goto hO dX12_tells_142 (tgt := 146) (by decide) ?_
          refine b_sub [0, 1, 2, 3, 4, 5, 6, 7, 9] rfl ?_
          exact tfX12_tells_146 n0 hO k36 k58 k78 hk36 hk58 hk78 _ _ _ _ _ _ _ _ _ _ _
theorem lX12_tells_78 (n0 : Nat) (hO : OKc p (rmL 7) s m args meth c LY D cy ad cX12_tells RX12 11 7 (some .int)) (k36 : Int32 → Int32 → Int32 → Int32 → Int32 → Mem → Option (Int32 × Mem)) (k58 : Int32 → Int32 → Int32 → Int32 → Int32 → Int32 → Int32 → Mem → Option (Int32 × Mem)) (hk36 : ∀ (x2 : Int32) (x3 : Int32) (x4 : Int32) (x5 : Int32) (x6 : Int32) (M : Mem), BL p l e (rmL 7) s m args below meth c LY D cy ad 11 (QI LY D cy ad) 36 [(0, .ref (ad 0)), (2, .int x2), (3, .int x3), (4, .int x4), (5, .int x5), (6, .int x6)] [] M (k36 x2 x3 x4 x5 x6 M)) (hk58 : ∀ (x2 : Int32) (x3 : Int32) (x4 : Int32) (x5 : Int32) (x6 : Int32) (x7 : Int32) (x8 : Int32) (M : Mem), BL p l e (rmL 7) s m args below meth c LY D cy ad 11 (QI LY D cy ad) 58 [(0, .ref (ad 0)), (2, .int x2), (3, .int x3), (4, .int x4), (5, .int x5), (6, .int x6), (7, .int x7), (8, .int x8)] [] M (k58 x2 x3 x4 x5 x6 x7 x8 M)) : ∀ (w : Nat) (x2 : Int32) (x3 : Int32) (x4 : Int32) (x5 : Int32) (x6 : Int32) (x7 : Int32) (x8 : Int32) (x9 : Int32) (x10 : Int32) (M : Mem), BL p l e (rmL 7) s m args below meth c LY D cy ad 11 (QI LY D cy ad) 78 [(0, .ref (ad 0)), (2, .int x2), (3, .int x3), (4, .int x4), (5, .int x5), (6, .int x6), (7, .int x7), (8, .int x8), (9, .int x9), (10, .int x10)] [] M (loopN (bX12_tells_78 n0 k36 k58) (fun _ _ _ _ _ _ _ _ _ _ => none) w x2 x3 x4 x5 x6 x7 x8 x9 x10 M) := by
  intro w
  induction w with
  | zero =>
    intros
    exact b_none
  | succ w ih =>
    intro x2 x3 x4 x5 x6 x7 x8 x9 x10 M
    exact tbX12_tells_78 n0 hO k36 k58 _ hk36 hk58 ih x2 x3 x4 x5 x6 x7 x8 x9 x10 M
theorem tfX12_tells_78 (n0 : Nat) (hO : OKc p (rmL 7) s m args meth c LY D cy ad cX12_tells RX12 11 7 (some .int)) (k36 : Int32 → Int32 → Int32 → Int32 → Int32 → Mem → Option (Int32 × Mem)) (k58 : Int32 → Int32 → Int32 → Int32 → Int32 → Int32 → Int32 → Mem → Option (Int32 × Mem)) (hk36 : ∀ (x2 : Int32) (x3 : Int32) (x4 : Int32) (x5 : Int32) (x6 : Int32) (M : Mem), BL p l e (rmL 7) s m args below meth c LY D cy ad 11 (QI LY D cy ad) 36 [(0, .ref (ad 0)), (2, .int x2), (3, .int x3), (4, .int x4), (5, .int x5), (6, .int x6)] [] M (k36 x2 x3 x4 x5 x6 M)) (hk58 : ∀ (x2 : Int32) (x3 : Int32) (x4 : Int32) (x5 : Int32) (x6 : Int32) (x7 : Int32) (x8 : Int32) (M : Mem), BL p l e (rmL 7) s m args below meth c LY D cy ad 11 (QI LY D cy ad) 58 [(0, .ref (ad 0)), (2, .int x2), (3, .int x3), (4, .int x4), (5, .int x5), (6, .int x6), (7, .int x7), (8, .int x8)] [] M (k58 x2 x3 x4 x5 x6 x7 x8 M)) (x2 : Int32) (x3 : Int32) (x4 : Int32) (x5 : Int32) (x6 : Int32) (x7 : Int32) (x8 : Int32) (x9 : Int32) (x10 : Int32) (M : Mem) : BL p l e (rmL 7) s m args below meth c LY D cy ad 11 (QI LY D cy ad) 78 [(0, .ref (ad 0)), (2, .int x2), (3, .int x3), (4, .int x4), (5, .int x5), (6, .int x6), (7, .int x7), (8, .int x8), (9, .int x9), (10, .int x10)] [] M (fX12_tells_78 n0 k36 k58 x2 x3 x4 x5 x6 x7 x8 x9 x10 M) := lX12_tells_78 n0 hO k36 k58 hk36 hk58 n0 x2 x3 x4 x5 x6 x7 x8 x9 x10 M
theorem tfX12_tells_195 (n0 : Nat) (hO : OKc p (rmL 7) s m args meth c LY D cy ad cX12_tells RX12 11 7 (some .int)) (k36 : Int32 → Int32 → Int32 → Int32 → Int32 → Mem → Option (Int32 × Mem)) (hk36 : ∀ (x2 : Int32) (x3 : Int32) (x4 : Int32) (x5 : Int32) (x6 : Int32) (M : Mem), BL p l e (rmL 7) s m args below meth c LY D cy ad 11 (QI LY D cy ad) 36 [(0, .ref (ad 0)), (2, .int x2), (3, .int x3), (4, .int x4), (5, .int x5), (6, .int x6)] [] M (k36 x2 x3 x4 x5 x6 M)) (x2 : Int32) (x3 : Int32) (x4 : Int32) (x5 : Int32) (x6 : Int32) (M : Mem) : BL p l e (rmL 7) s m args below meth c LY D cy ad 11 (QI LY D cy ad) 195 [(0, .ref (ad 0)), (2, .int x2), (3, .int x3), (4, .int x4), (5, .int x5), (6, .int x6)] [] M (fX12_tells_195 n0 k36 x2 x3 x4 x5 x6 M) := by
  unfold fX12_tells_195
  refine b_iinc hO dX12_tells_195 5 rfl ic_i_1 (by decide) (lv' := [(6, .int _), (0, .ref _), (2, .int _), (3, .int _), (4, .int _), (5, .int _)]) rfl ?_
  refine b_goto hO dX12_tells_198 (tgt := 36) (by decide) ?_
  refine b_sub [1, 2, 3, 4, 5, 0] rfl ?_
  exact hk36 _ _ _ _ _ _
theorem tbX12_tells_58 (n0 : Nat) (hO : OKc p (rmL 7) s m args meth c LY D cy ad cX12_tells RX12 11 7 (some .int)) (k36 : Int32 → Int32 → Int32 → Int32 → Int32 → Mem → Option (Int32 × Mem)) (k58 : Int32 → Int32 → Int32 → Int32 → Int32 → Int32 → Int32 → Mem → Option (Int32 × Mem)) (hk36 : ∀ (x2 : Int32) (x3 : Int32) (x4 : Int32) (x5 : Int32) (x6 : Int32) (M : Mem), BL p l e (rmL 7) s m args below meth c LY D cy ad 11 (QI LY D cy ad) 36 [(0, .ref (ad 0)), (2, .int x2), (3, .int x3), (4, .int x4), (5, .int x5), (6, .int x6)] [] M (k36 x2 x3 x4 x5 x6 M)) (hk58 : ∀ (x2 : Int32) (x3 : Int32) (x4 : Int32) (x5 : Int32) (x6 : Int32) (x7 : Int32) (x8 : Int32) (M : Mem), BL p l e (rmL 7) s m args below meth c LY D cy ad 11 (QI LY D cy ad) 58 [(0, .ref (ad 0)), (2, .int x2), (3, .int x3), (4, .int x4), (5, .int x5), (6, .int x6), (7, .int x7), (8, .int x8)] [] M (k58 x2 x3 x4 x5 x6 x7 x8 M)) (x2 : Int32) (x3 : Int32) (x4 : Int32) (x5 : Int32) (x6 : Int32) (x7 : Int32) (x8 : Int32) (M : Mem) : BL p l e (rmL 7) s m args below meth c LY D cy ad 11 (QI LY D cy ad) 58 [(0, .ref (ad 0)), (2, .int x2), (3, .int x3), (4, .int x4), (5, .int x5), (6, .int x6), (7, .int x7), (8, .int x8)] [] M (bX12_tells_58 n0 k36 k58 x2 x3 x4 x5 x6 x7 x8 M) := by
  unfold bX12_tells_58
  refine b_iload hO dX12_tells_58 7 rfl ?_
  refine b_aload_n hO dX12_tells_60 0 rfl rfl ?_
  refine b_get hO flX12_54 kLY_0 (v := .ref (ad 2)) rfl dX12_tells_61 ?_
  refine b_aload_n hO dX12_tells_64 0 rfl rfl ?_
  refine b_get hO flX12_51 kLY_0 (v := .int (gI _ 13)) rfl dX12_tells_65 ?_
  refine b_iald hO kLY_2 (n := 2) rfl dX12_tells_68 ?_
  refine b_icmp_gt hO dX12_tells_69 (tgt := 177) (by decide) ?_ ?_
  · refine b_iload hO dX12_tells_177 6 rfl ?_
    refine b_iload hO dX12_tells_179 4 rfl ?_
    refine b_icmp_lt hO dX12_tells_181 (tgt := 187) (by decide) ?_ ?_
    · refine b_iload hO dX12_tells_187 6 rfl ?_
      refine b_istore hO dX12_tells_189 (by decide) (lv' := [(5, .int _), (0, .ref _), (2, .int _), (3, .int _), (4, .int _), (6, .int _), (7, .int _), (8, .int _)]) rfl ?_
      refine b_iload hO dX12_tells_191 5 rfl ?_
      refine b_istore hO dX12_tells_193 (by decide) (lv' := [(4, .int _), (5, .int _), (0, .ref _), (2, .int _), (3, .int _), (6, .int _), (7, .int _), (8, .int _)]) rfl ?_
      refine b_sub [2, 3, 4, 0, 1, 5] rfl ?_
      exact tfX12_tells_195 n0 hO k36 hk36 _ _ _ _ _ _
    · refine b_goto hO dX12_tells_184 (tgt := 195) (by decide) ?_
      refine b_sub [0, 1, 2, 3, 4, 5] rfl ?_
      exact tfX12_tells_195 n0 hO k36 hk36 _ _ _ _ _ _
  · refine b_iconst hO dX12_tells_72 ic_i_0 ?_
    refine b_istore hO dX12_tells_73 (by decide) (lv' := [(9, .int _), (0, .ref _), (2, .int _), (3, .int _), (4, .int _), (5, .int _), (6, .int _), (7, .int _), (8, .int _)]) rfl ?_
    refine b_iconst hO dX12_tells_75 ic_i_0 ?_
    refine b_istore hO dX12_tells_76 (by decide) (lv' := [(10, .int _), (9, .int _), (0, .ref _), (2, .int _), (3, .int _), (4, .int _), (5, .int _), (6, .int _), (7, .int _), (8, .int _)]) rfl ?_
    refine b_sub [2, 3, 4, 5, 6, 7, 8, 9, 1, 0] rfl ?_
    exact tfX12_tells_78 n0 hO k36 k58 hk36 hk58 _ _ _ _ _ _ _ _ _ _
theorem lX12_tells_58 (n0 : Nat) (hO : OKc p (rmL 7) s m args meth c LY D cy ad cX12_tells RX12 11 7 (some .int)) (k36 : Int32 → Int32 → Int32 → Int32 → Int32 → Mem → Option (Int32 × Mem)) (hk36 : ∀ (x2 : Int32) (x3 : Int32) (x4 : Int32) (x5 : Int32) (x6 : Int32) (M : Mem), BL p l e (rmL 7) s m args below meth c LY D cy ad 11 (QI LY D cy ad) 36 [(0, .ref (ad 0)), (2, .int x2), (3, .int x3), (4, .int x4), (5, .int x5), (6, .int x6)] [] M (k36 x2 x3 x4 x5 x6 M)) : ∀ (w : Nat) (x2 : Int32) (x3 : Int32) (x4 : Int32) (x5 : Int32) (x6 : Int32) (x7 : Int32) (x8 : Int32) (M : Mem), BL p l e (rmL 7) s m args below meth c LY D cy ad 11 (QI LY D cy ad) 58 [(0, .ref (ad 0)), (2, .int x2), (3, .int x3), (4, .int x4), (5, .int x5), (6, .int x6), (7, .int x7), (8, .int x8)] [] M (loopN (bX12_tells_58 n0 k36) (fun _ _ _ _ _ _ _ _ => none) w x2 x3 x4 x5 x6 x7 x8 M) := by
  intro w
  induction w with
  | zero =>
    intros
    exact b_none
  | succ w ih =>
    intro x2 x3 x4 x5 x6 x7 x8 M
    exact tbX12_tells_58 n0 hO k36 _ hk36 ih x2 x3 x4 x5 x6 x7 x8 M
theorem tfX12_tells_58 (n0 : Nat) (hO : OKc p (rmL 7) s m args meth c LY D cy ad cX12_tells RX12 11 7 (some .int)) (k36 : Int32 → Int32 → Int32 → Int32 → Int32 → Mem → Option (Int32 × Mem)) (hk36 : ∀ (x2 : Int32) (x3 : Int32) (x4 : Int32) (x5 : Int32) (x6 : Int32) (M : Mem), BL p l e (rmL 7) s m args below meth c LY D cy ad 11 (QI LY D cy ad) 36 [(0, .ref (ad 0)), (2, .int x2), (3, .int x3), (4, .int x4), (5, .int x5), (6, .int x6)] [] M (k36 x2 x3 x4 x5 x6 M)) (x2 : Int32) (x3 : Int32) (x4 : Int32) (x5 : Int32) (x6 : Int32) (x7 : Int32) (x8 : Int32) (M : Mem) : BL p l e (rmL 7) s m args below meth c LY D cy ad 11 (QI LY D cy ad) 58 [(0, .ref (ad 0)), (2, .int x2), (3, .int x3), (4, .int x4), (5, .int x5), (6, .int x6), (7, .int x7), (8, .int x8)] [] M (fX12_tells_58 n0 k36 x2 x3 x4 x5 x6 x7 x8 M) := lX12_tells_58 n0 hO k36 hk36 n0 x2 x3 x4 x5 x6 x7 x8 M
theorem tfX12_tells_201 (n0 : Nat) (hO : OKc p (rmL 7) s m args meth c LY D cy ad cX12_tells RX12 11 7 (some .int)) (x2 : Int32) (x4 : Int32) (x5 : Int32) (M : Mem) : BL p l e (rmL 7) s m args below meth c LY D cy ad 11 (QI LY D cy ad) 201 [(2, .int x2), (4, .int x4), (5, .int x5)] [] M (fX12_tells_201 n0 x2 x4 x5 M) := by
  unfold fX12_tells_201
  refine b_iload hO dX12_tells_201 1 rfl ?_
  refine b_iconst hO dX12_tells_203 ic_i_m1 ?_
  refine b_icmp_eq hO dX12_tells_204 (tgt := 211) (by decide) ?_ ?_
  · refine b_iload hO dX12_tells_211 1 rfl ?_
    refine b_goto hO dX12_tells_213 (tgt := 218) (by decide) ?_
    exact b_iret hO dX12_tells_218
  · refine b_iload_n hO dX12_tells_207 0 rfl rfl ?_
    refine b_if_ne hO dX12_tells_208 (tgt := 216) (by decide) ?_ ?_
    · refine b_iload hO dX12_tells_216 2 rfl ?_
      exact b_iret hO dX12_tells_218
    · refine b_iload hO dX12_tells_211 1 rfl ?_
      refine b_goto hO dX12_tells_213 (tgt := 218) (by decide) ?_
      exact b_iret hO dX12_tells_218
theorem tbX12_tells_36 (n0 : Nat) (hO : OKc p (rmL 7) s m args meth c LY D cy ad cX12_tells RX12 11 7 (some .int)) (k36 : Int32 → Int32 → Int32 → Int32 → Int32 → Mem → Option (Int32 × Mem)) (hk36 : ∀ (x2 : Int32) (x3 : Int32) (x4 : Int32) (x5 : Int32) (x6 : Int32) (M : Mem), BL p l e (rmL 7) s m args below meth c LY D cy ad 11 (QI LY D cy ad) 36 [(0, .ref (ad 0)), (2, .int x2), (3, .int x3), (4, .int x4), (5, .int x5), (6, .int x6)] [] M (k36 x2 x3 x4 x5 x6 M)) (x2 : Int32) (x3 : Int32) (x4 : Int32) (x5 : Int32) (x6 : Int32) (M : Mem) : BL p l e (rmL 7) s m args below meth c LY D cy ad 11 (QI LY D cy ad) 36 [(0, .ref (ad 0)), (2, .int x2), (3, .int x3), (4, .int x4), (5, .int x5), (6, .int x6)] [] M (bX12_tells_36 n0 k36 x2 x3 x4 x5 x6 M) := by
  unfold bX12_tells_36
  refine b_aload_n hO dX12_tells_36 0 rfl rfl ?_
  refine b_iload hO dX12_tells_37 5 rfl ?_
  refine b_iconst hO dX12_tells_39 ic_i_0 ?_
  refine b_bipush hO dX12_tells_40 ic_b_40 ?_
  refine b_callVI hO mdX12_isAhead mvX12_isAhead w1749 (ci := 12) rfl rfl (by decide) kLY_0 (As := [.int _, .int _, .int _]) (st := []) (ctX12_isAhead n0 hO.2.2.2.2.2.2.1 _ _ _ _) (Nat.le_of_ble_eq_true rfl) rfl rfl (Nat.le_of_ble_eq_true rfl) dX12_tells_42 (fun z42 => ?_)
  refine b_if_eq hO dX12_tells_45 (tgt := 201) (by decide) ?_ ?_
  · refine b_sub [1, 3, 4] rfl ?_
    exact tfX12_tells_201 n0 hO _ _ _ _
  · refine b_iload_n hO dX12_tells_48 2 rfl rfl ?_
    refine b_if_eq hO dX12_tells_49 (tgt := 201) (by decide) ?_ ?_
    · refine b_sub [1, 3, 4] rfl ?_
      exact tfX12_tells_201 n0 hO _ _ _ _
    · refine b_iconst hO dX12_tells_52 ic_i_0 ?_
      refine b_istore hO dX12_tells_53 (by decide) (lv' := [(7, .int _), (0, .ref _), (2, .int _), (3, .int _), (4, .int _), (5, .int _), (6, .int _)]) rfl ?_
      refine b_iconst hO dX12_tells_55 ic_i_0 ?_
      refine b_istore hO dX12_tells_56 (by decide) (lv' := [(8, .int _), (7, .int _), (0, .ref _), (2, .int _), (3, .int _), (4, .int _), (5, .int _), (6, .int _)]) rfl ?_
      refine b_sub [2, 3, 4, 5, 6, 7, 1, 0] rfl ?_
      exact tfX12_tells_58 n0 hO k36 hk36 _ _ _ _ _ _ _ _
theorem lX12_tells_36 (n0 : Nat) (hO : OKc p (rmL 7) s m args meth c LY D cy ad cX12_tells RX12 11 7 (some .int)) : ∀ (w : Nat) (x2 : Int32) (x3 : Int32) (x4 : Int32) (x5 : Int32) (x6 : Int32) (M : Mem), BL p l e (rmL 7) s m args below meth c LY D cy ad 11 (QI LY D cy ad) 36 [(0, .ref (ad 0)), (2, .int x2), (3, .int x3), (4, .int x4), (5, .int x5), (6, .int x6)] [] M (loopN (bX12_tells_36 n0) (fun _ _ _ _ _ _ => none) w x2 x3 x4 x5 x6 M) := by
  intro w
  induction w with
  | zero =>
    intros
    exact b_none
  | succ w ih =>
    intro x2 x3 x4 x5 x6 M
    exact tbX12_tells_36 n0 hO _ ih x2 x3 x4 x5 x6 M
theorem tfX12_tells_36 (n0 : Nat) (hO : OKc p (rmL 7) s m args meth c LY D cy ad cX12_tells RX12 11 7 (some .int)) (x2 : Int32) (x3 : Int32) (x4 : Int32) (x5 : Int32) (x6 : Int32) (M : Mem) : BL p l e (rmL 7) s m args below meth c LY D cy ad 11 (QI LY D cy ad) 36 [(0, .ref (ad 0)), (2, .int x2), (3, .int x3), (4, .int x4), (5, .int x5), (6, .int x6)] [] M (fX12_tells_36 n0 x2 x3 x4 x5 x6 M) := lX12_tells_36 n0 hO n0 x2 x3 x4 x5 x6 M
theorem tfX12_tells (n0 : Nat) (hO : OKc p (rmL 7) s m args meth c LY D cy ad cX12_tells RX12 11 7 (some .int)) (x1 : Int32) (x2 : Int32) (M : Mem) : BL p l e (rmL 7) s m args below meth c LY D cy ad 11 (QI LY D cy ad) 0 [(0, .ref (ad 0)), (1, .int x1), (2, .int x2)] [] M (fX12_tells n0 x1 x2 M) := by
  unfold fX12_tells
  refine b_aload_n hO dX12_tells_0 0 rfl rfl ?_
  refine b_iload_n hO dX12_tells_1 1 rfl rfl ?_
  refine b_callVI hO mdX12_isCorner mvX12_isCorner w1733 (ci := 12) rfl rfl (by decide) kLY_0 (As := [.int _]) (st := []) (ctX12_isCorner n0 hO.2.2.2.2.2.2.1 _ _) (Nat.le_of_ble_eq_true rfl) rfl rfl (Nat.le_of_ble_eq_true rfl) dX12_tells_2 (fun z2 => ?_)
  refine b_if_eq hO dX12_tells_5 (tgt := 17) (by decide) ?_ ?_
  · refine b_iconst hO dX12_tells_17 ic_i_m1 ?_
    exact b_iret hO dX12_tells_18
  · refine b_iload_n hO dX12_tells_8 2 rfl rfl ?_
    refine b_iconst hO dX12_tells_9 ic_i_0 ?_
    refine b_iconst hO dX12_tells_10 ic_i_1 ?_
    refine b_callSI hO mdX12_is w1561 w1560 (As := [.int _, .int _, .int _]) (st := []) (ctX12_is n0 hO.2.2.2.2.2.2.1 _ _ _ _) (Nat.le_of_ble_eq_true rfl) rfl rfl (Nat.le_of_ble_eq_true rfl) dX12_tells_11 (fun z11 => ?_)
    refine b_if_ne hO dX12_tells_14 (tgt := 19) (by decide) ?_ ?_
    · refine b_aload_n hO dX12_tells_19 0 rfl rfl ?_
      refine b_iload_n hO dX12_tells_20 1 rfl rfl ?_
      refine b_callVI hO mdX12_heldBits mvX12_heldBits w1816 (ci := 12) rfl rfl (by decide) kLY_0 (As := [.int _]) (st := []) (ctX12_heldBits n0 hO.2.2.2.2.2.2.1 _ _) (Nat.le_of_ble_eq_true rfl) rfl rfl (Nat.le_of_ble_eq_true rfl) dX12_tells_21 (fun z21 => ?_)
      refine b_istore_n hO dX12_tells_24 rfl (by decide) (lv' := [(3, .int _), (0, .ref _), (1, .int _), (2, .int _)]) rfl ?_
      refine b_iconst hO dX12_tells_25 ic_i_m1 ?_
      refine b_istore hO dX12_tells_26 (by decide) (lv' := [(4, .int _), (3, .int _), (0, .ref _), (1, .int _), (2, .int _)]) rfl ?_
      refine b_ldcw hO w1648 dX12_tells_28 ?_
      refine b_istore hO dX12_tells_31 (by decide) (lv' := [(5, .int _), (4, .int _), (3, .int _), (0, .ref _), (1, .int _), (2, .int _)]) rfl ?_
      refine b_iconst hO dX12_tells_33 ic_i_0 ?_
      refine b_istore hO dX12_tells_34 (by decide) (lv' := [(6, .int _), (5, .int _), (4, .int _), (3, .int _), (0, .ref _), (1, .int _), (2, .int _)]) rfl ?_
      refine b_sub [4, 6, 3, 2, 1, 0] rfl ?_
      exact tfX12_tells_36 n0 hO _ _ _ _ _ _
    · refine b_iconst hO dX12_tells_17 ic_i_m1 ?_
      exact b_iret hO dX12_tells_18
theorem ctX12_tells (n0 : Nat) (hI : Inj LY ad) (x1 : Int32) (x2 : Int32) (M : Mem) : CT l LY D cy ad yX12_tells cX12_tells 11 (some .int) 7 (QI LY D cy ad) [.ref (ad 0), .int x1, .int x2] M (fX12_tells n0 x1 x2 M) :=
  CT.mk LYok hI (by decide) (Nat.le_of_ble_eq_true rfl) (fun hO => tfX12_tells n0 hO x1 x2 M)
/-! X12_minutes -/
def bX12_minutes_25 (n0 : Nat) (k25 : Int32 → Int32 → Int32 → Mem → Option (Int32 × Mem)) (x1 : Int32) (x2 : Int32) (x3 : Int32) (M : Mem) : Option (Int32 × Mem) :=
  if x1 ≤ x3 then
    some (x2, M)
  else
    (fX12_passes n0 (0 : Int32) M).bind fun z33 =>
    bnd (x2 + z33.1) fun x2_37 =>
    k25 x1 x2_37 (x3 + (1 : Int32)) z33.2
def fX12_minutes_25 (n0 : Nat) : Int32 → Int32 → Int32 → Mem → Option (Int32 × Mem) := loopN (bX12_minutes_25 n0) (fun _ _ _ _ => none) n0
def fX12_minutes (n0 : Nat) (x1 : Int32) (M : Mem) : Option (Int32 × Mem) :=
  (fX12_isAhead n0 x1 (1 : Int32) (100 : Int32) M).bind fun z5 =>
  if z5.1 = 0 then
    (fX12_refuses n0 (2 : Int32) z5.2).bind fun z13 =>
    some (z13.1, z13.2)
  else
    (fX12_keeps n0 z5.2).bind fun z18 =>
    fX12_minutes_25 n0 x1 (0 : Int32) (0 : Int32) z18
theorem tbX12_minutes_25 (n0 : Nat) (hO : OKc p (rmL 7) s m args meth c LY D cy ad cX12_minutes RX12 4 7 (some .int)) (k25 : Int32 → Int32 → Int32 → Mem → Option (Int32 × Mem)) (hk25 : ∀ (x1 : Int32) (x2 : Int32) (x3 : Int32) (M : Mem), BL p l e (rmL 7) s m args below meth c LY D cy ad 4 (QI LY D cy ad) 25 [(0, .ref (ad 0)), (1, .int x1), (2, .int x2), (3, .int x3)] [] M (k25 x1 x2 x3 M)) (x1 : Int32) (x2 : Int32) (x3 : Int32) (M : Mem) : BL p l e (rmL 7) s m args below meth c LY D cy ad 4 (QI LY D cy ad) 25 [(0, .ref (ad 0)), (1, .int x1), (2, .int x2), (3, .int x3)] [] M (bX12_minutes_25 n0 k25 x1 x2 x3 M) := by
  unfold bX12_minutes_25
  refine b_iload_n hO dX12_minutes_25 3 rfl rfl ?_
  refine b_iload_n hO dX12_minutes_26 1 rfl rfl ?_
  refine b_icmp_ge hO dX12_minutes_27 (tgt := 44) (by decide) ?_ ?_
  · refine b_iload_n hO dX12_minutes_44 2 rfl rfl ?_
    exact b_iret hO dX12_minutes_45
  · refine b_iload_n hO dX12_minutes_30 2 rfl rfl ?_
    refine b_aload_n hO dX12_minutes_31 0 rfl rfl ?_
    refine b_iconst hO dX12_minutes_32 ic_i_0 ?_
    refine b_callVI hO mdX12_passes mvX12_passes w1753 (ci := 12) rfl rfl (by decide) kLY_0 (As := [.int _]) (st := [.int _]) (ctX12_passes n0 hO.2.2.2.2.2.2.1 _ _) (Nat.le_of_ble_eq_true rfl) rfl rfl (Nat.le_of_ble_eq_true rfl) dX12_minutes_33 (fun z33 => ?_)
    refine b_iadd hO dX12_minutes_36 ?_
    refine b_topI (fun x2_37 => ?_)
    refine b_istore_n hO dX12_minutes_37 rfl (by decide) (lv' := [(2, .int _), (0, .ref _), (1, .int _), (3, .int _)]) rfl ?_
    refine b_iinc hO dX12_minutes_38 3 rfl ic_i_1 (by decide) (lv' := [(3, .int _), (2, .int _), (0, .ref _), (1, .int _)]) rfl ?_
    refine b_goto hO dX12_minutes_41 (tgt := 25) (by decide) ?_
    refine b_sub [2, 3, 1, 0] rfl ?_
    exact hk25 _ _ _ _
theorem lX12_minutes_25 (n0 : Nat) (hO : OKc p (rmL 7) s m args meth c LY D cy ad cX12_minutes RX12 4 7 (some .int)) : ∀ (w : Nat) (x1 : Int32) (x2 : Int32) (x3 : Int32) (M : Mem), BL p l e (rmL 7) s m args below meth c LY D cy ad 4 (QI LY D cy ad) 25 [(0, .ref (ad 0)), (1, .int x1), (2, .int x2), (3, .int x3)] [] M (loopN (bX12_minutes_25 n0) (fun _ _ _ _ => none) w x1 x2 x3 M) := by
  intro w
  induction w with
  | zero =>
    intros
    exact b_none
  | succ w ih =>
    intro x1 x2 x3 M
    exact tbX12_minutes_25 n0 hO _ ih x1 x2 x3 M
theorem tfX12_minutes_25 (n0 : Nat) (hO : OKc p (rmL 7) s m args meth c LY D cy ad cX12_minutes RX12 4 7 (some .int)) (x1 : Int32) (x2 : Int32) (x3 : Int32) (M : Mem) : BL p l e (rmL 7) s m args below meth c LY D cy ad 4 (QI LY D cy ad) 25 [(0, .ref (ad 0)), (1, .int x1), (2, .int x2), (3, .int x3)] [] M (fX12_minutes_25 n0 x1 x2 x3 M) := lX12_minutes_25 n0 hO n0 x1 x2 x3 M
theorem tfX12_minutes (n0 : Nat) (hO : OKc p (rmL 7) s m args meth c LY D cy ad cX12_minutes RX12 4 7 (some .int)) (x1 : Int32) (M : Mem) : BL p l e (rmL 7) s m args below meth c LY D cy ad 4 (QI LY D cy ad) 0 [(0, .ref (ad 0)), (1, .int x1)] [] M (fX12_minutes n0 x1 M) := by
  unfold fX12_minutes
  refine b_aload_n hO dX12_minutes_0 0 rfl rfl ?_
  refine b_iload_n hO dX12_minutes_1 1 rfl rfl ?_
  refine b_iconst hO dX12_minutes_2 ic_i_1 ?_
  refine b_bipush hO dX12_minutes_3 ic_b_100 ?_
  refine b_callVI hO mdX12_isAhead mvX12_isAhead w1749 (ci := 12) rfl rfl (by decide) kLY_0 (As := [.int _, .int _, .int _]) (st := []) (ctX12_isAhead n0 hO.2.2.2.2.2.2.1 _ _ _ _) (Nat.le_of_ble_eq_true rfl) rfl rfl (Nat.le_of_ble_eq_true rfl) dX12_minutes_5 (fun z5 => ?_)
  refine b_if_ne hO dX12_minutes_8 (tgt := 17) (by decide) ?_ ?_
  · refine b_aload_n hO dX12_minutes_17 0 rfl rfl ?_
    refine b_callVV hO mdX12_keeps mvX12_keeps w1828 (ci := 12) rfl rfl (by decide) kLY_0 (As := []) (st := []) (ctX12_keeps n0 hO.2.2.2.2.2.2.1 _) (Nat.le_of_ble_eq_true rfl) rfl rfl (Nat.le_of_ble_eq_true rfl) dX12_minutes_18 (fun z18 => ?_)
    refine b_iconst hO dX12_minutes_21 ic_i_0 ?_
    refine b_istore_n hO dX12_minutes_22 rfl (by decide) (lv' := [(2, .int _), (0, .ref _), (1, .int _)]) rfl ?_
    refine b_iconst hO dX12_minutes_23 ic_i_0 ?_
    refine b_istore_n hO dX12_minutes_24 rfl (by decide) (lv' := [(3, .int _), (2, .int _), (0, .ref _), (1, .int _)]) rfl ?_
    refine b_sub [2, 3, 1, 0] rfl ?_
    exact tfX12_minutes_25 n0 hO _ _ _ _
  · refine b_aload_n hO dX12_minutes_11 0 rfl rfl ?_
    refine b_iconst hO dX12_minutes_12 ic_i_2 ?_
    refine b_callVI hO mdX12_refuses mvX12_refuses w1453 (ci := 12) rfl rfl (by decide) kLY_0 (As := [.int _]) (st := []) (ctX12_refuses n0 hO.2.2.2.2.2.2.1 _ _) (Nat.le_of_ble_eq_true rfl) rfl rfl (Nat.le_of_ble_eq_true rfl) dX12_minutes_13 (fun z13 => ?_)
    exact b_iret hO dX12_minutes_16
theorem ctX12_minutes (n0 : Nat) (hI : Inj LY ad) (x1 : Int32) (M : Mem) : CT l LY D cy ad yX12_minutes cX12_minutes 4 (some .int) 7 (QI LY D cy ad) [.ref (ad 0), .int x1] M (fX12_minutes n0 x1 M) :=
  CT.mk LYok hI (by decide) (Nat.le_of_ble_eq_true rfl) (fun hO => tfX12_minutes n0 hO x1 M)
/-! X12_draw -/
def fX12_draw (n0 : Nat) (x1 : Int32) (M : Mem) : Option (Int32 × Mem) :=
  if (2147483648 : Int64) = 0 then none else
  bnd (sL M 55 (rem64 (((1103515245 : Int64) * (gL M 55)) + (12345 : Int64)) (2147483648 : Int64))) fun M17 =>
  if (64 : Int64) = 0 then none else
  if (x1).toInt64 = 0 then none else
  some (((rem64 ((gL M17 55) / (64 : Int64)) (x1).toInt64)).toInt32, M17)
theorem tfX12_draw (n0 : Nat) (hO : OKc p (rmL 1) s m args meth c LY D cy ad cX12_draw RX12 2 1 (some .int)) (x1 : Int32) (M : Mem) : BL p l e (rmL 1) s m args below meth c LY D cy ad 2 (QI LY D cy ad) 0 [(0, .ref (ad 0)), (1, .int x1)] [] M (fX12_draw n0 x1 M) := by
  unfold fX12_draw
  refine b_aload_n hO dX12_draw_0 0 rfl rfl ?_
  refine b_ldc2 hO w1840 dX12_draw_1 ?_
  refine b_aload_n hO dX12_draw_4 0 rfl rfl ?_
  refine b_get hO flX12_180 kLY_0 (v := .long (gL _ 55)) rfl dX12_draw_5 ?_
  refine b_lmul hO dX12_draw_8 ?_
  refine b_ldc2 hO w1841 dX12_draw_9 ?_
  refine b_ladd hO dX12_draw_12 ?_
  refine b_ldc2 hO w1842 dX12_draw_13 ?_
  refine b_lrem hO dX12_draw_16 ?_
  refine b_putL hO flX12_180 kLY_0 rfl rfl rfl (id := 55) rfl dX12_draw_17 ?_
  refine b_bnd (fun M17 => ?_)
  refine b_aload_n hO dX12_draw_20 0 rfl rfl ?_
  refine b_get hO flX12_180 kLY_0 (v := .long (gL _ 55)) rfl dX12_draw_21 ?_
  refine b_ldc2 hO w1843 dX12_draw_24 ?_
  refine b_ldiv hO dX12_draw_27 ?_
  refine b_iload_n hO dX12_draw_28 1 rfl rfl ?_
  refine b_i2l hO dX12_draw_29 ?_
  refine b_lrem hO dX12_draw_30 ?_
  refine b_l2i hO dX12_draw_31 ?_
  exact b_iret hO dX12_draw_32
theorem ctX12_draw (n0 : Nat) (hI : Inj LY ad) (x1 : Int32) (M : Mem) : CT l LY D cy ad yX12_draw cX12_draw 2 (some .int) 1 (QI LY D cy ad) [.ref (ad 0), .int x1] M (fX12_draw n0 x1 M) :=
  CT.mk LYok hI (by decide) (Nat.le_of_ble_eq_true rfl) (fun hO => tfX12_draw n0 hO x1 M)
/-! X12_chance -/
def fX12_chance_115 (n0 : Nat) (k25 : Int32 → Int32 → Int32 → Mem → Option (Int32 × Mem)) (x1 : Int32) (x2 : Int32) (x3 : Int32) (M : Mem) : Option (Int32 × Mem) :=
  (fX12_finishesDoings n0 (0 : Int32) M).bind fun z117 =>
  k25 x1 x2 (x3 + (1 : Int32)) z117.2
def bX12_chance_25 (n0 : Nat) (k25 : Int32 → Int32 → Int32 → Mem → Option (Int32 × Mem)) (x1 : Int32) (x2 : Int32) (x3 : Int32) (M : Mem) : Option (Int32 × Mem) :=
  if x1 ≤ x3 then
    some (x2, M)
  else
    (fX12_ticks n0 (0 : Int32) M).bind fun z32 =>
    (fX12_draw n0 (100 : Int32) z32).bind fun z38 =>
    if oob (gI z38.2 13) 2 then none else
    if (gA z38.2 13 (Int32.toNatClampNeg (gI z38.2 13))) ≤ z38.1 then
      fX12_chance_115 n0 k25 x1 x2 x3 z38.2
    else
      if oob (gI z38.2 13) 2 then none else
      if (gA z38.2 5 (Int32.toNatClampNeg (gI z38.2 13))) ≤ 0 then
        fX12_chance_115 n0 k25 x1 x2 x3 z38.2
      else
        if oob (gI z38.2 13) 2 then none else
        if (gA z38.2 2 (Int32.toNatClampNeg (gI z38.2 13))) ≤ 0 then
          fX12_chance_115 n0 k25 x1 x2 x3 z38.2
        else
          if oob (gI z38.2 13) 2 then none else
          (fX12_draw n0 (gA z38.2 5 (Int32.toNatClampNeg (gI z38.2 13))) z38.2).bind fun z87 =>
          if oob (gI z87.2 13) 2 then none else
          (fX12_draw n0 (gA z87.2 2 (Int32.toNatClampNeg (gI z87.2 13))) z87.2).bind fun z106 =>
          (fX12_puts n0 (0 : Int32) z87.1 z106.1 z106.2).bind fun z109 =>
          fX12_chance_115 n0 k25 x1 (x2 + (1 : Int32)) x3 z109
def fX12_chance_25 (n0 : Nat) : Int32 → Int32 → Int32 → Mem → Option (Int32 × Mem) := loopN (bX12_chance_25 n0) (fun _ _ _ _ => none) n0
def fX12_chance (n0 : Nat) (x1 : Int32) (M : Mem) : Option (Int32 × Mem) :=
  (fX12_isAhead n0 x1 (1 : Int32) (100 : Int32) M).bind fun z5 =>
  if z5.1 = 0 then
    (fX12_refuses n0 (2 : Int32) z5.2).bind fun z13 =>
    some (z13.1, z13.2)
  else
    (fX12_keeps n0 z5.2).bind fun z18 =>
    fX12_chance_25 n0 x1 (0 : Int32) (0 : Int32) z18
theorem tfX12_chance_115 (n0 : Nat) (hO : OKc p (rmL 6) s m args meth c LY D cy ad cX12_chance RX12 5 6 (some .int)) (k25 : Int32 → Int32 → Int32 → Mem → Option (Int32 × Mem)) (hk25 : ∀ (x1 : Int32) (x2 : Int32) (x3 : Int32) (M : Mem), BL p l e (rmL 6) s m args below meth c LY D cy ad 5 (QI LY D cy ad) 25 [(0, .ref (ad 0)), (1, .int x1), (2, .int x2), (3, .int x3)] [] M (k25 x1 x2 x3 M)) (x1 : Int32) (x2 : Int32) (x3 : Int32) (M : Mem) : BL p l e (rmL 6) s m args below meth c LY D cy ad 5 (QI LY D cy ad) 115 [(0, .ref (ad 0)), (1, .int x1), (2, .int x2), (3, .int x3)] [] M (fX12_chance_115 n0 k25 x1 x2 x3 M) := by
  unfold fX12_chance_115
  refine b_aload_n hO dX12_chance_115 0 rfl rfl ?_
  refine b_iconst hO dX12_chance_116 ic_i_0 ?_
  refine b_callVI hO mdX12_finishesDoings mvX12_finishesDoings w1653 (ci := 12) rfl rfl (by decide) kLY_0 (As := [.int _]) (st := []) (ctX12_finishesDoings n0 hO.2.2.2.2.2.2.1 _ _) (Nat.le_of_ble_eq_true rfl) rfl rfl (Nat.le_of_ble_eq_true rfl) dX12_chance_117 (fun z117 => ?_)
  refine b_pop hO dX12_chance_120 rfl ?_
  refine b_iinc hO dX12_chance_121 3 rfl ic_i_1 (by decide) (lv' := [(3, .int _), (0, .ref _), (1, .int _), (2, .int _)]) rfl ?_
  refine b_goto hO dX12_chance_124 (tgt := 25) (by decide) ?_
  refine b_sub [1, 2, 3, 0] rfl ?_
  exact hk25 _ _ _ _
theorem tbX12_chance_25 (n0 : Nat) (hO : OKc p (rmL 6) s m args meth c LY D cy ad cX12_chance RX12 5 6 (some .int)) (k25 : Int32 → Int32 → Int32 → Mem → Option (Int32 × Mem)) (hk25 : ∀ (x1 : Int32) (x2 : Int32) (x3 : Int32) (M : Mem), BL p l e (rmL 6) s m args below meth c LY D cy ad 5 (QI LY D cy ad) 25 [(0, .ref (ad 0)), (1, .int x1), (2, .int x2), (3, .int x3)] [] M (k25 x1 x2 x3 M)) (x1 : Int32) (x2 : Int32) (x3 : Int32) (M : Mem) : BL p l e (rmL 6) s m args below meth c LY D cy ad 5 (QI LY D cy ad) 25 [(0, .ref (ad 0)), (1, .int x1), (2, .int x2), (3, .int x3)] [] M (bX12_chance_25 n0 k25 x1 x2 x3 M) := by
  unfold bX12_chance_25
  refine b_iload_n hO dX12_chance_25 3 rfl rfl ?_
  refine b_iload_n hO dX12_chance_26 1 rfl rfl ?_
  refine b_icmp_ge hO dX12_chance_27 (tgt := 127) (by decide) ?_ ?_
  · refine b_iload_n hO dX12_chance_127 2 rfl rfl ?_
    exact b_iret hO dX12_chance_128
  · refine b_aload_n hO dX12_chance_30 0 rfl rfl ?_
    refine b_iconst hO dX12_chance_31 ic_i_0 ?_
    refine b_callVV hO mdX12_ticks mvX12_ticks w1757 (ci := 12) rfl rfl (by decide) kLY_0 (As := [.int _]) (st := []) (ctX12_ticks n0 hO.2.2.2.2.2.2.1 _ _) (Nat.le_of_ble_eq_true rfl) rfl rfl (Nat.le_of_ble_eq_true rfl) dX12_chance_32 (fun z32 => ?_)
    refine b_aload_n hO dX12_chance_35 0 rfl rfl ?_
    refine b_bipush hO dX12_chance_36 ic_b_100 ?_
    refine b_callVI hO mdX12_draw mvX12_draw w1836 (ci := 12) rfl rfl (by decide) kLY_0 (As := [.int _]) (st := []) (ctX12_draw n0 hO.2.2.2.2.2.2.1 _ _) (Nat.le_of_ble_eq_true rfl) rfl rfl (Nat.le_of_ble_eq_true rfl) dX12_chance_38 (fun z38 => ?_)
    refine b_aload_n hO dX12_chance_41 0 rfl rfl ?_
    refine b_get hO flX12_87 kLY_0 (v := .ref (ad 13)) rfl dX12_chance_42 ?_
    refine b_aload_n hO dX12_chance_45 0 rfl rfl ?_
    refine b_get hO flX12_51 kLY_0 (v := .int (gI _ 13)) rfl dX12_chance_46 ?_
    refine b_iald hO kLY_13 (n := 2) rfl dX12_chance_49 ?_
    refine b_icmp_ge hO dX12_chance_50 (tgt := 115) (by decide) ?_ ?_
    · exact tfX12_chance_115 n0 hO k25 hk25 _ _ _ _
    · refine b_aload_n hO dX12_chance_53 0 rfl rfl ?_
      refine b_get hO flX12_63 kLY_0 (v := .ref (ad 5)) rfl dX12_chance_54 ?_
      refine b_aload_n hO dX12_chance_57 0 rfl rfl ?_
      refine b_get hO flX12_51 kLY_0 (v := .int (gI _ 13)) rfl dX12_chance_58 ?_
      refine b_iald hO kLY_5 (n := 2) rfl dX12_chance_61 ?_
      refine b_if_le hO dX12_chance_62 (tgt := 115) (by decide) ?_ ?_
      · exact tfX12_chance_115 n0 hO k25 hk25 _ _ _ _
      · refine b_aload_n hO dX12_chance_65 0 rfl rfl ?_
        refine b_get hO flX12_54 kLY_0 (v := .ref (ad 2)) rfl dX12_chance_66 ?_
        refine b_aload_n hO dX12_chance_69 0 rfl rfl ?_
        refine b_get hO flX12_51 kLY_0 (v := .int (gI _ 13)) rfl dX12_chance_70 ?_
        refine b_iald hO kLY_2 (n := 2) rfl dX12_chance_73 ?_
        refine b_if_le hO dX12_chance_74 (tgt := 115) (by decide) ?_ ?_
        · exact tfX12_chance_115 n0 hO k25 hk25 _ _ _ _
        · refine b_aload_n hO dX12_chance_77 0 rfl rfl ?_
          refine b_aload_n hO dX12_chance_78 0 rfl rfl ?_
          refine b_get hO flX12_63 kLY_0 (v := .ref (ad 5)) rfl dX12_chance_79 ?_
          refine b_aload_n hO dX12_chance_82 0 rfl rfl ?_
          refine b_get hO flX12_51 kLY_0 (v := .int (gI _ 13)) rfl dX12_chance_83 ?_
          refine b_iald hO kLY_5 (n := 2) rfl dX12_chance_86 ?_
          refine b_callVI hO mdX12_draw mvX12_draw w1836 (ci := 12) rfl rfl (by decide) kLY_0 (As := [.int _]) (st := []) (ctX12_draw n0 hO.2.2.2.2.2.2.1 _ _) (Nat.le_of_ble_eq_true rfl) rfl rfl (Nat.le_of_ble_eq_true rfl) dX12_chance_87 (fun z87 => ?_)
          refine b_istore hO dX12_chance_90 (by decide) (lv' := [(4, .int _), (0, .ref _), (1, .int _), (2, .int _), (3, .int _)]) rfl ?_
          refine b_aload_n hO dX12_chance_92 1 rfl rfl ?_
          refine b_iconst hO dX12_chance_93 ic_i_0 ?_
          refine b_iload hO dX12_chance_94 0 rfl ?_
          refine b_aload_n hO dX12_chance_96 1 rfl rfl ?_
          refine b_aload_n hO dX12_chance_97 1 rfl rfl ?_
          refine b_get hO flX12_54 kLY_0 (v := .ref (ad 2)) rfl dX12_chance_98 ?_
          refine b_aload_n hO dX12_chance_101 1 rfl rfl ?_
          refine b_get hO flX12_51 kLY_0 (v := .int (gI _ 13)) rfl dX12_chance_102 ?_
          refine b_iald hO kLY_2 (n := 2) rfl dX12_chance_105 ?_
          refine b_callVI hO mdX12_draw mvX12_draw w1836 (ci := 12) rfl rfl (by decide) kLY_0 (As := [.int _]) (st := [.int _, .int _, .ref _]) (ctX12_draw n0 hO.2.2.2.2.2.2.1 _ _) (Nat.le_of_ble_eq_true rfl) rfl rfl (Nat.le_of_ble_eq_true rfl) dX12_chance_106 (fun z106 => ?_)
          refine b_callVV hO mdX12_puts mvX12_puts w1765 (ci := 12) rfl rfl (by decide) kLY_0 (As := [.int _, .int _, .int _]) (st := []) (ctX12_puts n0 hO.2.2.2.2.2.2.1 _ _ _ _) (Nat.le_of_ble_eq_true rfl) rfl rfl (Nat.le_of_ble_eq_true rfl) dX12_chance_109 (fun z109 => ?_)
          refine b_iinc hO dX12_chance_112 3 rfl ic_i_1 (by decide) (lv' := [(2, .int _), (4, .int _), (0, .ref _), (1, .int _), (3, .int _)]) rfl ?_
          refine b_sub [2, 3, 0, 4] rfl ?_
          exact tfX12_chance_115 n0 hO k25 hk25 _ _ _ _
theorem lX12_chance_25 (n0 : Nat) (hO : OKc p (rmL 6) s m args meth c LY D cy ad cX12_chance RX12 5 6 (some .int)) : ∀ (w : Nat) (x1 : Int32) (x2 : Int32) (x3 : Int32) (M : Mem), BL p l e (rmL 6) s m args below meth c LY D cy ad 5 (QI LY D cy ad) 25 [(0, .ref (ad 0)), (1, .int x1), (2, .int x2), (3, .int x3)] [] M (loopN (bX12_chance_25 n0) (fun _ _ _ _ => none) w x1 x2 x3 M) := by
  intro w
  induction w with
  | zero =>
    intros
    exact b_none
  | succ w ih =>
    intro x1 x2 x3 M
    exact tbX12_chance_25 n0 hO _ ih x1 x2 x3 M
theorem tfX12_chance_25 (n0 : Nat) (hO : OKc p (rmL 6) s m args meth c LY D cy ad cX12_chance RX12 5 6 (some .int)) (x1 : Int32) (x2 : Int32) (x3 : Int32) (M : Mem) : BL p l e (rmL 6) s m args below meth c LY D cy ad 5 (QI LY D cy ad) 25 [(0, .ref (ad 0)), (1, .int x1), (2, .int x2), (3, .int x3)] [] M (fX12_chance_25 n0 x1 x2 x3 M) := lX12_chance_25 n0 hO n0 x1 x2 x3 M
theorem tfX12_chance (n0 : Nat) (hO : OKc p (rmL 6) s m args meth c LY D cy ad cX12_chance RX12 5 6 (some .int)) (x1 : Int32) (M : Mem) : BL p l e (rmL 6) s m args below meth c LY D cy ad 5 (QI LY D cy ad) 0 [(0, .ref (ad 0)), (1, .int x1)] [] M (fX12_chance n0 x1 M) := by
  unfold fX12_chance
  refine b_aload_n hO dX12_chance_0 0 rfl rfl ?_
  refine b_iload_n hO dX12_chance_1 1 rfl rfl ?_
  refine b_iconst hO dX12_chance_2 ic_i_1 ?_
  refine b_bipush hO dX12_chance_3 ic_b_100 ?_
  refine b_callVI hO mdX12_isAhead mvX12_isAhead w1749 (ci := 12) rfl rfl (by decide) kLY_0 (As := [.int _, .int _, .int _]) (st := []) (ctX12_isAhead n0 hO.2.2.2.2.2.2.1 _ _ _ _) (Nat.le_of_ble_eq_true rfl) rfl rfl (Nat.le_of_ble_eq_true rfl) dX12_chance_5 (fun z5 => ?_)
  refine b_if_ne hO dX12_chance_8 (tgt := 17) (by decide) ?_ ?_
  · refine b_aload_n hO dX12_chance_17 0 rfl rfl ?_
    refine b_callVV hO mdX12_keeps mvX12_keeps w1828 (ci := 12) rfl rfl (by decide) kLY_0 (As := []) (st := []) (ctX12_keeps n0 hO.2.2.2.2.2.2.1 _) (Nat.le_of_ble_eq_true rfl) rfl rfl (Nat.le_of_ble_eq_true rfl) dX12_chance_18 (fun z18 => ?_)
    refine b_iconst hO dX12_chance_21 ic_i_0 ?_
    refine b_istore_n hO dX12_chance_22 rfl (by decide) (lv' := [(2, .int _), (0, .ref _), (1, .int _)]) rfl ?_
    refine b_iconst hO dX12_chance_23 ic_i_0 ?_
    refine b_istore_n hO dX12_chance_24 rfl (by decide) (lv' := [(3, .int _), (2, .int _), (0, .ref _), (1, .int _)]) rfl ?_
    refine b_sub [2, 3, 1, 0] rfl ?_
    exact tfX12_chance_25 n0 hO _ _ _ _
  · refine b_aload_n hO dX12_chance_11 0 rfl rfl ?_
    refine b_iconst hO dX12_chance_12 ic_i_2 ?_
    refine b_callVI hO mdX12_refuses mvX12_refuses w1453 (ci := 12) rfl rfl (by decide) kLY_0 (As := [.int _]) (st := []) (ctX12_refuses n0 hO.2.2.2.2.2.2.1 _ _) (Nat.le_of_ble_eq_true rfl) rfl rfl (Nat.le_of_ble_eq_true rfl) dX12_chance_13 (fun z13 => ?_)
    exact b_iret hO dX12_chance_16
theorem ctX12_chance (n0 : Nat) (hI : Inj LY ad) (x1 : Int32) (M : Mem) : CT l LY D cy ad yX12_chance cX12_chance 5 (some .int) 6 (QI LY D cy ad) [.ref (ad 0), .int x1] M (fX12_chance n0 x1 M) :=
  CT.mk LYok hI (by decide) (Nat.le_of_ble_eq_true rfl) (fun hO => tfX12_chance n0 hO x1 M)
/-! X12_give -/
def fX12_give_16 (n0 : Nat) (M : Mem) : Option (Int32 × Mem) :=
  (fX12_refuses n0 (3 : Int32) M).bind fun z18 =>
  some (z18.1, z18.2)
def fX12_give (n0 : Nat) (x1 : Int32) (x2 : Int32) (M : Mem) : Option (Int32 × Mem) :=
  (fX12_isCorner n0 x1 M).bind fun z2 =>
  if z2.1 = 0 then
    fX12_give_16 n0 z2.2
  else
    (fX12_isThing n0 x2 z2.2).bind fun z10 =>
    if z10.1 = 0 then
      fX12_give_16 n0 z10.2
    else
      (fX12_keeps n0 z10.2).bind fun z23 =>
      (fX12_puts n0 (0 : Int32) x1 x2 z23).bind fun z30 =>
      (fX12_finishesDoings n0 (0 : Int32) z30).bind fun z35 =>
      (fX12_hour n0 (0 : Int32) x1 z35.2).bind fun z42 =>
      some (z42.1, z42.2)
theorem tfX12_give_16 (n0 : Nat) (hO : OKc p (rmL 6) s m args meth c LY D cy ad cX12_give RX12 3 6 (some .int)) (M : Mem) : BL p l e (rmL 6) s m args below meth c LY D cy ad 3 (QI LY D cy ad) 16 [(0, .ref (ad 0))] [] M (fX12_give_16 n0 M) := by
  unfold fX12_give_16
  refine b_aload_n hO dX12_give_16 0 rfl rfl ?_
  refine b_iconst hO dX12_give_17 ic_i_3 ?_
  refine b_callVI hO mdX12_refuses mvX12_refuses w1453 (ci := 12) rfl rfl (by decide) kLY_0 (As := [.int _]) (st := []) (ctX12_refuses n0 hO.2.2.2.2.2.2.1 _ _) (Nat.le_of_ble_eq_true rfl) rfl rfl (Nat.le_of_ble_eq_true rfl) dX12_give_18 (fun z18 => ?_)
  exact b_iret hO dX12_give_21
theorem tfX12_give (n0 : Nat) (hO : OKc p (rmL 6) s m args meth c LY D cy ad cX12_give RX12 3 6 (some .int)) (x1 : Int32) (x2 : Int32) (M : Mem) : BL p l e (rmL 6) s m args below meth c LY D cy ad 3 (QI LY D cy ad) 0 [(0, .ref (ad 0)), (1, .int x1), (2, .int x2)] [] M (fX12_give n0 x1 x2 M) := by
  unfold fX12_give
  refine b_aload_n hO dX12_give_0 0 rfl rfl ?_
  refine b_iload_n hO dX12_give_1 1 rfl rfl ?_
  refine b_callVI hO mdX12_isCorner mvX12_isCorner w1733 (ci := 12) rfl rfl (by decide) kLY_0 (As := [.int _]) (st := []) (ctX12_isCorner n0 hO.2.2.2.2.2.2.1 _ _) (Nat.le_of_ble_eq_true rfl) rfl rfl (Nat.le_of_ble_eq_true rfl) dX12_give_2 (fun z2 => ?_)
  refine b_if_eq hO dX12_give_5 (tgt := 16) (by decide) ?_ ?_
  · refine b_sub [0] rfl ?_
    exact tfX12_give_16 n0 hO _
  · refine b_aload_n hO dX12_give_8 0 rfl rfl ?_
    refine b_iload_n hO dX12_give_9 2 rfl rfl ?_
    refine b_callVI hO mdX12_isThing mvX12_isThing w1725 (ci := 12) rfl rfl (by decide) kLY_0 (As := [.int _]) (st := []) (ctX12_isThing n0 hO.2.2.2.2.2.2.1 _ _) (Nat.le_of_ble_eq_true rfl) rfl rfl (Nat.le_of_ble_eq_true rfl) dX12_give_10 (fun z10 => ?_)
    refine b_if_ne hO dX12_give_13 (tgt := 22) (by decide) ?_ ?_
    · refine b_aload_n hO dX12_give_22 0 rfl rfl ?_
      refine b_callVV hO mdX12_keeps mvX12_keeps w1828 (ci := 12) rfl rfl (by decide) kLY_0 (As := []) (st := []) (ctX12_keeps n0 hO.2.2.2.2.2.2.1 _) (Nat.le_of_ble_eq_true rfl) rfl rfl (Nat.le_of_ble_eq_true rfl) dX12_give_23 (fun z23 => ?_)
      refine b_aload_n hO dX12_give_26 0 rfl rfl ?_
      refine b_iconst hO dX12_give_27 ic_i_0 ?_
      refine b_iload_n hO dX12_give_28 1 rfl rfl ?_
      refine b_iload_n hO dX12_give_29 2 rfl rfl ?_
      refine b_callVV hO mdX12_puts mvX12_puts w1765 (ci := 12) rfl rfl (by decide) kLY_0 (As := [.int _, .int _, .int _]) (st := []) (ctX12_puts n0 hO.2.2.2.2.2.2.1 _ _ _ _) (Nat.le_of_ble_eq_true rfl) rfl rfl (Nat.le_of_ble_eq_true rfl) dX12_give_30 (fun z30 => ?_)
      refine b_aload_n hO dX12_give_33 0 rfl rfl ?_
      refine b_iconst hO dX12_give_34 ic_i_0 ?_
      refine b_callVI hO mdX12_finishesDoings mvX12_finishesDoings w1653 (ci := 12) rfl rfl (by decide) kLY_0 (As := [.int _]) (st := []) (ctX12_finishesDoings n0 hO.2.2.2.2.2.2.1 _ _) (Nat.le_of_ble_eq_true rfl) rfl rfl (Nat.le_of_ble_eq_true rfl) dX12_give_35 (fun z35 => ?_)
      refine b_pop hO dX12_give_38 rfl ?_
      refine b_aload_n hO dX12_give_39 0 rfl rfl ?_
      refine b_iconst hO dX12_give_40 ic_i_0 ?_
      refine b_iload_n hO dX12_give_41 1 rfl rfl ?_
      refine b_callVI hO mdX12_hour mvX12_hour w1657 (ci := 12) rfl rfl (by decide) kLY_0 (As := [.int _, .int _]) (st := []) (ctX12_hour n0 hO.2.2.2.2.2.2.1 _ _ _) (Nat.le_of_ble_eq_true rfl) rfl rfl (Nat.le_of_ble_eq_true rfl) dX12_give_42 (fun z42 => ?_)
      exact b_iret hO dX12_give_45
    · refine b_sub [0] rfl ?_
      exact tfX12_give_16 n0 hO _
theorem ctX12_give (n0 : Nat) (hI : Inj LY ad) (x1 : Int32) (x2 : Int32) (M : Mem) : CT l LY D cy ad yX12_give cX12_give 3 (some .int) 6 (QI LY D cy ad) [.ref (ad 0), .int x1, .int x2] M (fX12_give n0 x1 x2 M) :=
  CT.mk LYok hI (by decide) (Nat.le_of_ble_eq_true rfl) (fun hO => tfX12_give n0 hO x1 x2 M)
/-! X12_take -/
def fX12_take_18 (n0 : Nat) (M : Mem) : Option (Int32 × Mem) :=
  (fX12_refuses n0 (3 : Int32) M).bind fun z20 =>
  some (z20.1, z20.2)
def fX12_take (n0 : Nat) (x1 : Int32) (M : Mem) : Option (Int32 × Mem) :=
  (fX12_isCorner n0 x1 M).bind fun z2 =>
  if z2.1 = 0 then
    fX12_take_18 n0 z2.2
  else
    if oob x1 110 then none else
    if (gA z2.2 29 (Int32.toNatClampNeg x1)) = (-1 : Int32) then
      fX12_take_18 n0 z2.2
    else
      (fX12_keeps n0 z2.2).bind fun z25 =>
      (fX12_puts n0 (0 : Int32) x1 (-1 : Int32) z25).bind fun z32 =>
      (fX12_finishesDoings n0 (0 : Int32) z32).bind fun z37 =>
      (fX12_hour n0 (0 : Int32) x1 z37.2).bind fun z44 =>
      some (z44.1, z44.2)
theorem tfX12_take_18 (n0 : Nat) (hO : OKc p (rmL 6) s m args meth c LY D cy ad cX12_take RX12 2 6 (some .int)) (M : Mem) : BL p l e (rmL 6) s m args below meth c LY D cy ad 2 (QI LY D cy ad) 18 [(0, .ref (ad 0))] [] M (fX12_take_18 n0 M) := by
  unfold fX12_take_18
  refine b_aload_n hO dX12_take_18 0 rfl rfl ?_
  refine b_iconst hO dX12_take_19 ic_i_3 ?_
  refine b_callVI hO mdX12_refuses mvX12_refuses w1453 (ci := 12) rfl rfl (by decide) kLY_0 (As := [.int _]) (st := []) (ctX12_refuses n0 hO.2.2.2.2.2.2.1 _ _) (Nat.le_of_ble_eq_true rfl) rfl rfl (Nat.le_of_ble_eq_true rfl) dX12_take_20 (fun z20 => ?_)
  exact b_iret hO dX12_take_23
theorem tfX12_take (n0 : Nat) (hO : OKc p (rmL 6) s m args meth c LY D cy ad cX12_take RX12 2 6 (some .int)) (x1 : Int32) (M : Mem) : BL p l e (rmL 6) s m args below meth c LY D cy ad 2 (QI LY D cy ad) 0 [(0, .ref (ad 0)), (1, .int x1)] [] M (fX12_take n0 x1 M) := by
  unfold fX12_take
  refine b_aload_n hO dX12_take_0 0 rfl rfl ?_
  refine b_iload_n hO dX12_take_1 1 rfl rfl ?_
  refine b_callVI hO mdX12_isCorner mvX12_isCorner w1733 (ci := 12) rfl rfl (by decide) kLY_0 (As := [.int _]) (st := []) (ctX12_isCorner n0 hO.2.2.2.2.2.2.1 _ _) (Nat.le_of_ble_eq_true rfl) rfl rfl (Nat.le_of_ble_eq_true rfl) dX12_take_2 (fun z2 => ?_)
  refine b_if_eq hO dX12_take_5 (tgt := 18) (by decide) ?_ ?_
  · refine b_sub [0] rfl ?_
    exact tfX12_take_18 n0 hO _
  · refine b_aload_n hO dX12_take_8 0 rfl rfl ?_
    refine b_get hO flX12_159 kLY_0 (v := .ref (ad 29)) rfl dX12_take_9 ?_
    refine b_iload_n hO dX12_take_12 1 rfl rfl ?_
    refine b_iald hO kLY_29 (n := 110) rfl dX12_take_13 ?_
    refine b_iconst hO dX12_take_14 ic_i_m1 ?_
    refine b_icmp_ne hO dX12_take_15 (tgt := 24) (by decide) ?_ ?_
    · refine b_aload_n hO dX12_take_24 0 rfl rfl ?_
      refine b_callVV hO mdX12_keeps mvX12_keeps w1828 (ci := 12) rfl rfl (by decide) kLY_0 (As := []) (st := []) (ctX12_keeps n0 hO.2.2.2.2.2.2.1 _) (Nat.le_of_ble_eq_true rfl) rfl rfl (Nat.le_of_ble_eq_true rfl) dX12_take_25 (fun z25 => ?_)
      refine b_aload_n hO dX12_take_28 0 rfl rfl ?_
      refine b_iconst hO dX12_take_29 ic_i_0 ?_
      refine b_iload_n hO dX12_take_30 1 rfl rfl ?_
      refine b_iconst hO dX12_take_31 ic_i_m1 ?_
      refine b_callVV hO mdX12_puts mvX12_puts w1765 (ci := 12) rfl rfl (by decide) kLY_0 (As := [.int _, .int _, .int _]) (st := []) (ctX12_puts n0 hO.2.2.2.2.2.2.1 _ _ _ _) (Nat.le_of_ble_eq_true rfl) rfl rfl (Nat.le_of_ble_eq_true rfl) dX12_take_32 (fun z32 => ?_)
      refine b_aload_n hO dX12_take_35 0 rfl rfl ?_
      refine b_iconst hO dX12_take_36 ic_i_0 ?_
      refine b_callVI hO mdX12_finishesDoings mvX12_finishesDoings w1653 (ci := 12) rfl rfl (by decide) kLY_0 (As := [.int _]) (st := []) (ctX12_finishesDoings n0 hO.2.2.2.2.2.2.1 _ _) (Nat.le_of_ble_eq_true rfl) rfl rfl (Nat.le_of_ble_eq_true rfl) dX12_take_37 (fun z37 => ?_)
      refine b_pop hO dX12_take_40 rfl ?_
      refine b_aload_n hO dX12_take_41 0 rfl rfl ?_
      refine b_iconst hO dX12_take_42 ic_i_0 ?_
      refine b_iload_n hO dX12_take_43 1 rfl rfl ?_
      refine b_callVI hO mdX12_hour mvX12_hour w1657 (ci := 12) rfl rfl (by decide) kLY_0 (As := [.int _, .int _]) (st := []) (ctX12_hour n0 hO.2.2.2.2.2.2.1 _ _ _) (Nat.le_of_ble_eq_true rfl) rfl rfl (Nat.le_of_ble_eq_true rfl) dX12_take_44 (fun z44 => ?_)
      exact b_iret hO dX12_take_47
    · refine b_sub [0] rfl ?_
      exact tfX12_take_18 n0 hO _
theorem ctX12_take (n0 : Nat) (hI : Inj LY ad) (x1 : Int32) (M : Mem) : CT l LY D cy ad yX12_take cX12_take 2 (some .int) 6 (QI LY D cy ad) [.ref (ad 0), .int x1] M (fX12_take n0 x1 M) :=
  CT.mk LYok hI (by decide) (Nat.le_of_ble_eq_true rfl) (fun hO => tfX12_take n0 hO x1 M)
/-! X12_seed -/
def fX12_seed (n0 : Nat) (x1 : Int32) (M : Mem) : Option (Int32 × Mem) :=
  if 0 ≤ x1 then
    bnd (sL M 55 (x1).toInt64) fun M21 =>
    some ((1 : Int32), M21)
  else
    (fX12_refuses n0 (5 : Int32) M).bind fun z6 =>
    if z6.1 < 0 then
      some ((0 : Int32), z6.2)
    else
      some ((1 : Int32), z6.2)
theorem tfX12_seed (n0 : Nat) (hO : OKc p (rmL 2) s m args meth c LY D cy ad cX12_seed RX12 2 2 (some .boolean)) (x1 : Int32) (M : Mem) : BL p l e (rmL 2) s m args below meth c LY D cy ad 2 (QI LY D cy ad) 0 [(0, .ref (ad 0)), (1, .int x1)] [] M (fX12_seed n0 x1 M) := by
  unfold fX12_seed
  refine b_iload_n hO dX12_seed_0 1 rfl rfl ?_
  refine b_if_ge hO dX12_seed_1 (tgt := 18) (by decide) ?_ ?_
  · refine b_aload_n hO dX12_seed_18 0 rfl rfl ?_
    refine b_iload_n hO dX12_seed_19 1 rfl rfl ?_
    refine b_i2l hO dX12_seed_20 ?_
    refine b_putL hO flX12_180 kLY_0 rfl rfl rfl (id := 55) rfl dX12_seed_21 ?_
    refine b_bnd (fun M21 => ?_)
    refine b_iconst hO dX12_seed_24 ic_i_1 ?_
    exact b_zretc hO (Or.inr rfl) dX12_seed_25
  · refine b_aload_n hO dX12_seed_4 0 rfl rfl ?_
    refine b_iconst hO dX12_seed_5 ic_i_5 ?_
    refine b_callVI hO mdX12_refuses mvX12_refuses w1453 (ci := 12) rfl rfl (by decide) kLY_0 (As := [.int _]) (st := []) (ctX12_refuses n0 hO.2.2.2.2.2.2.1 _ _) (Nat.le_of_ble_eq_true rfl) rfl rfl (Nat.le_of_ble_eq_true rfl) dX12_seed_6 (fun z6 => ?_)
    refine b_if_lt hO dX12_seed_9 (tgt := 16) (by decide) ?_ ?_
    · refine b_iconst hO dX12_seed_16 ic_i_0 ?_
      exact b_zretc hO (Or.inl rfl) dX12_seed_17
    · refine b_iconst hO dX12_seed_12 ic_i_1 ?_
      refine b_goto hO dX12_seed_13 (tgt := 17) (by decide) ?_
      exact b_zretc hO (Or.inr rfl) dX12_seed_17
theorem ctX12_seed (n0 : Nat) (hI : Inj LY ad) (x1 : Int32) (M : Mem) : CT l LY D cy ad yX12_seed cX12_seed 2 (some .boolean) 2 (QI LY D cy ad) [.ref (ad 0), .int x1] M (fX12_seed n0 x1 M) :=
  CT.mk LYok hI (by decide) (Nat.le_of_ble_eq_true rfl) (fun hO => tfX12_seed n0 hO x1 M)
/-! X12_kept -/
def fX12_kept (n0 : Nat) (x1 : Int32) (x2 : Int32) (M : Mem) : Option (Int32 × Mem) :=
  if oob (0 : Int32) 22 then none else
  (fX12_is n0 x1 (0 : Int32) ((gA M 32 (Int32.toNatClampNeg (0 : Int32))) - (1 : Int32)) M).bind fun z10 =>
  if z10.1 = 0 then
    some ((-1 : Int32), z10.2)
  else
    (fX12_is n0 x2 (0 : Int32) (1 : Int32) z10.2).bind fun z19 =>
    if z19.1 = 0 then
      some ((-1 : Int32), z19.2)
    else
      if oob (((2 : Int32) * x1) + x2) 1760 then none else
      some ((gA z19.2 33 (Int32.toNatClampNeg (((2 : Int32) * x1) + x2))), z19.2)
theorem tfX12_kept (n0 : Nat) (hO : OKc p (rmL 2) s m args meth c LY D cy ad cX12_kept RX12 3 2 (some .int)) (x1 : Int32) (x2 : Int32) (M : Mem) : BL p l e (rmL 2) s m args below meth c LY D cy ad 3 (QI LY D cy ad) 0 [(0, .ref (ad 0)), (1, .int x1), (2, .int x2)] [] M (fX12_kept n0 x1 x2 M) := by
  unfold fX12_kept
  refine b_iload_n hO dX12_kept_0 1 rfl rfl ?_
  refine b_iconst hO dX12_kept_1 ic_i_0 ?_
  refine b_aload_n hO dX12_kept_2 0 rfl rfl ?_
  refine b_get hO flX12_168 kLY_0 (v := .ref (ad 32)) rfl dX12_kept_3 ?_
  refine b_iconst hO dX12_kept_6 ic_i_0 ?_
  refine b_iald hO kLY_32 (n := 22) rfl dX12_kept_7 ?_
  refine b_iconst hO dX12_kept_8 ic_i_1 ?_
  refine b_isub hO dX12_kept_9 ?_
  refine b_callSI hO mdX12_is w1561 w1560 (As := [.int _, .int _, .int _]) (st := []) (ctX12_is n0 hO.2.2.2.2.2.2.1 _ _ _ _) (Nat.le_of_ble_eq_true rfl) rfl rfl (Nat.le_of_ble_eq_true rfl) dX12_kept_10 (fun z10 => ?_)
  refine b_if_eq hO dX12_kept_13 (tgt := 38) (by decide) ?_ ?_
  · refine b_iconst hO dX12_kept_38 ic_i_m1 ?_
    exact b_iret hO dX12_kept_39
  · refine b_iload_n hO dX12_kept_16 2 rfl rfl ?_
    refine b_iconst hO dX12_kept_17 ic_i_0 ?_
    refine b_iconst hO dX12_kept_18 ic_i_1 ?_
    refine b_callSI hO mdX12_is w1561 w1560 (As := [.int _, .int _, .int _]) (st := []) (ctX12_is n0 hO.2.2.2.2.2.2.1 _ _ _ _) (Nat.le_of_ble_eq_true rfl) rfl rfl (Nat.le_of_ble_eq_true rfl) dX12_kept_19 (fun z19 => ?_)
    refine b_if_eq hO dX12_kept_22 (tgt := 38) (by decide) ?_ ?_
    · refine b_iconst hO dX12_kept_38 ic_i_m1 ?_
      exact b_iret hO dX12_kept_39
    · refine b_aload_n hO dX12_kept_25 0 rfl rfl ?_
      refine b_get hO flX12_171 kLY_0 (v := .ref (ad 33)) rfl dX12_kept_26 ?_
      refine b_iconst hO dX12_kept_29 ic_i_2 ?_
      refine b_iload_n hO dX12_kept_30 1 rfl rfl ?_
      refine b_imul hO dX12_kept_31 ?_
      refine b_iload_n hO dX12_kept_32 2 rfl rfl ?_
      refine b_iadd hO dX12_kept_33 ?_
      refine b_iald hO kLY_33 (n := 1760) rfl dX12_kept_34 ?_
      refine b_goto hO dX12_kept_35 (tgt := 39) (by decide) ?_
      exact b_iret hO dX12_kept_39
theorem ctX12_kept (n0 : Nat) (hI : Inj LY ad) (x1 : Int32) (x2 : Int32) (M : Mem) : CT l LY D cy ad yX12_kept cX12_kept 3 (some .int) 2 (QI LY D cy ad) [.ref (ad 0), .int x1, .int x2] M (fX12_kept n0 x1 x2 M) :=
  CT.mk LYok hI (by decide) (Nat.le_of_ble_eq_true rfl) (fun hO => tfX12_kept n0 hO x1 x2 M)
/-! X12_writes -/
def fX12_writes (n0 : Nat) (x1 : Int32) (M : Mem) : Option (Mem) :=
  if oob (gI M 67) 40 then none else
  bnd (sA M 43 (Int32.toNatClampNeg (gI M 67)) (x1 &&& (255 : Int32))) fun M13 =>
  some (sI M13 67 ((gI M13 67) + (1 : Int32)))
theorem tfX12_writes (n0 : Nat) (hO : OKc p (rmL 1) s m args meth c LY D cy ad cX12_writes RX12 2 1 none) (x1 : Int32) (M : Mem) : BL p l e (rmL 1) s m args below meth c LY D cy ad 2 (QV LY D cy ad) 0 [(0, .ref (ad 0)), (1, .int x1)] [] M (fX12_writes n0 x1 M) := by
  unfold fX12_writes
  refine b_aload_n hO dX12_writes_0 0 rfl rfl ?_
  refine b_get hO flX12_213 kLY_0 (v := .ref (ad 43)) rfl dX12_writes_1 ?_
  refine b_aload_n hO dX12_writes_4 0 rfl rfl ?_
  refine b_get hO flX12_216 kLY_0 (v := .int (gI _ 67)) rfl dX12_writes_5 ?_
  refine b_iload_n hO dX12_writes_8 1 rfl rfl ?_
  refine b_sipush hO dX12_writes_9 ic_s_255 ?_
  refine b_iand hO dX12_writes_12 ?_
  refine b_iast hO kLY_43 (n := 40) rfl dX12_writes_13 ?_
  refine b_bnd (fun M13 => ?_)
  refine b_aload_n hO dX12_writes_14 0 rfl rfl ?_
  refine b_dup hO dX12_writes_15 rfl ?_
  refine b_get hO flX12_216 kLY_0 (v := .int (gI _ 67)) rfl dX12_writes_16 ?_
  refine b_iconst hO dX12_writes_19 ic_i_1 ?_
  refine b_iadd hO dX12_writes_20 ?_
  refine b_putI hO flX12_216 kLY_0 rfl rfl rfl (id := 67) rfl dX12_writes_21 ?_
  exact b_vret hO dX12_writes_24
theorem ctX12_writes (n0 : Nat) (hI : Inj LY ad) (x1 : Int32) (M : Mem) : CT l LY D cy ad yX12_writes cX12_writes 2 none 1 (QV LY D cy ad) [.ref (ad 0), .int x1] M (fX12_writes n0 x1 M) :=
  CT.mk LYok hI (by decide) (Nat.le_of_ble_eq_true rfl) (fun hO => tfX12_writes n0 hO x1 M)
/-! X12_image -/
def fX12_image_116 (n0 : Nat) (k84 : Int32 → Mem → Option (Int32 × Mem)) (x1 : Int32) (u1 : Int32) (M : Mem) : Option (Int32 × Mem) :=
  (fX12_writes n0 u1 M).bind fun z116 =>
  k84 (x1 + (1 : Int32)) z116
def bX12_image_131 (n0 : Nat) (k131 : Int32 → Int32 → Mem → Option (Int32 × Mem)) (x1 : Int32) (x2 : Int32) (M : Mem) : Option (Int32 × Mem) :=
  if (gI M 67) ≤ x2 then
    (fX12_writes n0 x1 M).bind fun z162 =>
    some ((gI z162 67), z162)
  else
    if oob x2 40 then none else
    if (251 : Int32) = 0 then none else
    bnd (rem32 (((5 : Int32) * x1) + (gA M 43 (Int32.toNatClampNeg x2))) (251 : Int32)) fun x1_153 =>
    k131 x1_153 (x2 + (1 : Int32)) M
def fX12_image_131 (n0 : Nat) : Int32 → Int32 → Mem → Option (Int32 × Mem) := loopN (bX12_image_131 n0) (fun _ _ _ => none) n0
def bX12_image_84 (n0 : Nat) (k84 : Int32 → Mem → Option (Int32 × Mem)) (x1 : Int32) (M : Mem) : Option (Int32 × Mem) :=
  if oob (gI M 13) 2 then none else
  if (gA M 10 (Int32.toNatClampNeg (gI M 13))) ≤ x1 then
    fX12_image_131 n0 (227 : Int32) (0 : Int32) M
  else
    if oob (0 : Int32) 22 then none else
    (fX12_has2 n0 (gA M 31 (Int32.toNatClampNeg (0 : Int32))) x1 M).bind fun z105 =>
    if z105.1 = 0 then
      fX12_image_116 n0 k84 x1 (0 : Int32) z105.2
    else
      fX12_image_116 n0 k84 x1 (1 : Int32) z105.2
def fX12_image_84 (n0 : Nat) : Int32 → Mem → Option (Int32 × Mem) := loopN (bX12_image_84 n0) (fun _ _ => none) n0
def bX12_image_30 (n0 : Nat) (k30 : Int32 → Mem → Option (Int32 × Mem)) (x1 : Int32) (M : Mem) : Option (Int32 × Mem) :=
  if oob (gI M 13) 2 then none else
  if (gA M 5 (Int32.toNatClampNeg (gI M 13))) ≤ x1 then
    fX12_image_84 n0 (0 : Int32) M
  else
    if oob x1 110 then none else
    (fX12_writes n0 (gA M 29 (Int32.toNatClampNeg x1)) M).bind fun z50 =>
    if oob x1 110 then none else
    (fX12_writes n0 ((gA z50 30 (Int32.toNatClampNeg x1)) >>> ((8 : Int32) &&& 31)) z50).bind fun z63 =>
    if oob x1 110 then none else
    (fX12_writes n0 (gA z63 30 (Int32.toNatClampNeg x1)) z63).bind fun z73 =>
    k30 (x1 + (1 : Int32)) z73
def fX12_image_30 (n0 : Nat) : Int32 → Mem → Option (Int32 × Mem) := loopN (bX12_image_30 n0) (fun _ _ => none) n0
def fX12_image (n0 : Nat) (M : Mem) : Option (Int32 × Mem) :=
  bnd (sI M 67 (0 : Int32)) fun M2 =>
  if oob (0 : Int32) 22 then none else
  (fX12_writes n0 ((gA M2 28 (Int32.toNatClampNeg (0 : Int32))) >>> ((8 : Int32) &&& 31)) M2).bind fun z15 =>
  if oob (0 : Int32) 22 then none else
  (fX12_writes n0 (gA z15 28 (Int32.toNatClampNeg (0 : Int32))) z15).bind fun z25 =>
  fX12_image_30 n0 (0 : Int32) z25
theorem tfX12_image_116 (n0 : Nat) (hO : OKc p (rmL 2) s m args meth c LY D cy ad cX12_image RX12 3 2 (some .int)) (k84 : Int32 → Mem → Option (Int32 × Mem)) (hk84 : ∀ (x1 : Int32) (M : Mem), BL p l e (rmL 2) s m args below meth c LY D cy ad 3 (QI LY D cy ad) 84 [(0, .ref (ad 0)), (1, .int x1)] [] M (k84 x1 M)) (x1 : Int32) (u1 : Int32) (M : Mem) : BL p l e (rmL 2) s m args below meth c LY D cy ad 3 (QI LY D cy ad) 116 [(0, .ref (ad 0)), (1, .int x1)] [.int u1, .ref (ad 0)] M (fX12_image_116 n0 k84 x1 u1 M) := by
  unfold fX12_image_116
  refine b_callVV hO mdX12_writes mvX12_writes w1864 (ci := 12) rfl rfl (by decide) kLY_0 (As := [.int _]) (st := []) (ctX12_writes n0 hO.2.2.2.2.2.2.1 _ _) (Nat.le_of_ble_eq_true rfl) rfl rfl (Nat.le_of_ble_eq_true rfl) dX12_image_116 (fun z116 => ?_)
  refine b_iinc hO dX12_image_119 1 rfl ic_i_1 (by decide) (lv' := [(1, .int _), (0, .ref _)]) rfl ?_
  refine b_goto hO dX12_image_122 (tgt := 84) (by decide) ?_
  refine b_sub [1, 0] rfl ?_
  exact hk84 _ _
theorem tbX12_image_131 (n0 : Nat) (hO : OKc p (rmL 2) s m args meth c LY D cy ad cX12_image RX12 3 2 (some .int)) (k131 : Int32 → Int32 → Mem → Option (Int32 × Mem)) (hk131 : ∀ (x1 : Int32) (x2 : Int32) (M : Mem), BL p l e (rmL 2) s m args below meth c LY D cy ad 3 (QI LY D cy ad) 131 [(0, .ref (ad 0)), (1, .int x1), (2, .int x2)] [] M (k131 x1 x2 M)) (x1 : Int32) (x2 : Int32) (M : Mem) : BL p l e (rmL 2) s m args below meth c LY D cy ad 3 (QI LY D cy ad) 131 [(0, .ref (ad 0)), (1, .int x1), (2, .int x2)] [] M (bX12_image_131 n0 k131 x1 x2 M) := by
  unfold bX12_image_131
  refine b_iload_n hO dX12_image_131 2 rfl rfl ?_
  refine b_aload_n hO dX12_image_132 0 rfl rfl ?_
  refine b_get hO flX12_216 kLY_0 (v := .int (gI _ 67)) rfl dX12_image_133 ?_
  refine b_icmp_ge hO dX12_image_136 (tgt := 160) (by decide) ?_ ?_
  · refine b_aload_n hO dX12_image_160 0 rfl rfl ?_
    refine b_iload_n hO dX12_image_161 1 rfl rfl ?_
    refine b_callVV hO mdX12_writes mvX12_writes w1864 (ci := 12) rfl rfl (by decide) kLY_0 (As := [.int _]) (st := []) (ctX12_writes n0 hO.2.2.2.2.2.2.1 _ _) (Nat.le_of_ble_eq_true rfl) rfl rfl (Nat.le_of_ble_eq_true rfl) dX12_image_162 (fun z162 => ?_)
    refine b_aload_n hO dX12_image_165 0 rfl rfl ?_
    refine b_get hO flX12_216 kLY_0 (v := .int (gI _ 67)) rfl dX12_image_166 ?_
    exact b_iret hO dX12_image_169
  · refine b_iconst hO dX12_image_139 ic_i_5 ?_
    refine b_iload_n hO dX12_image_140 1 rfl rfl ?_
    refine b_imul hO dX12_image_141 ?_
    refine b_aload_n hO dX12_image_142 0 rfl rfl ?_
    refine b_get hO flX12_213 kLY_0 (v := .ref (ad 43)) rfl dX12_image_143 ?_
    refine b_iload_n hO dX12_image_146 2 rfl rfl ?_
    refine b_iald hO kLY_43 (n := 40) rfl dX12_image_147 ?_
    refine b_iadd hO dX12_image_148 ?_
    refine b_sipush hO dX12_image_149 ic_s_251 ?_
    refine b_irem hO dX12_image_152 ?_
    refine b_topI (fun x1_153 => ?_)
    refine b_istore_n hO dX12_image_153 rfl (by decide) (lv' := [(1, .int _), (0, .ref _), (2, .int _)]) rfl ?_
    refine b_iinc hO dX12_image_154 2 rfl ic_i_1 (by decide) (lv' := [(2, .int _), (1, .int _), (0, .ref _)]) rfl ?_
    refine b_goto hO dX12_image_157 (tgt := 131) (by decide) ?_
    refine b_sub [2, 1, 0] rfl ?_
    exact hk131 _ _ _
theorem lX12_image_131 (n0 : Nat) (hO : OKc p (rmL 2) s m args meth c LY D cy ad cX12_image RX12 3 2 (some .int)) : ∀ (w : Nat) (x1 : Int32) (x2 : Int32) (M : Mem), BL p l e (rmL 2) s m args below meth c LY D cy ad 3 (QI LY D cy ad) 131 [(0, .ref (ad 0)), (1, .int x1), (2, .int x2)] [] M (loopN (bX12_image_131 n0) (fun _ _ _ => none) w x1 x2 M) := by
  intro w
  induction w with
  | zero =>
    intros
    exact b_none
  | succ w ih =>
    intro x1 x2 M
    exact tbX12_image_131 n0 hO _ ih x1 x2 M
theorem tfX12_image_131 (n0 : Nat) (hO : OKc p (rmL 2) s m args meth c LY D cy ad cX12_image RX12 3 2 (some .int)) (x1 : Int32) (x2 : Int32) (M : Mem) : BL p l e (rmL 2) s m args below meth c LY D cy ad 3 (QI LY D cy ad) 131 [(0, .ref (ad 0)), (1, .int x1), (2, .int x2)] [] M (fX12_image_131 n0 x1 x2 M) := lX12_image_131 n0 hO n0 x1 x2 M
theorem tbX12_image_84 (n0 : Nat) (hO : OKc p (rmL 2) s m args meth c LY D cy ad cX12_image RX12 3 2 (some .int)) (k84 : Int32 → Mem → Option (Int32 × Mem)) (hk84 : ∀ (x1 : Int32) (M : Mem), BL p l e (rmL 2) s m args below meth c LY D cy ad 3 (QI LY D cy ad) 84 [(0, .ref (ad 0)), (1, .int x1)] [] M (k84 x1 M)) (x1 : Int32) (M : Mem) : BL p l e (rmL 2) s m args below meth c LY D cy ad 3 (QI LY D cy ad) 84 [(0, .ref (ad 0)), (1, .int x1)] [] M (bX12_image_84 n0 k84 x1 M) := by
  unfold bX12_image_84
  refine b_iload_n hO dX12_image_84 1 rfl rfl ?_
  refine b_aload_n hO dX12_image_85 0 rfl rfl ?_
  refine b_get hO flX12_78 kLY_0 (v := .ref (ad 10)) rfl dX12_image_86 ?_
  refine b_aload_n hO dX12_image_89 0 rfl rfl ?_
  refine b_get hO flX12_51 kLY_0 (v := .int (gI _ 13)) rfl dX12_image_90 ?_
  refine b_iald hO kLY_10 (n := 2) rfl dX12_image_93 ?_
  refine b_icmp_ge hO dX12_image_94 (tgt := 125) (by decide) ?_ ?_
  · refine b_sipush hO dX12_image_125 ic_s_227 ?_
    refine b_istore_n hO dX12_image_128 rfl (by decide) (lv' := [(1, .int _), (0, .ref _)]) rfl ?_
    refine b_iconst hO dX12_image_129 ic_i_0 ?_
    refine b_istore_n hO dX12_image_130 rfl (by decide) (lv' := [(2, .int _), (1, .int _), (0, .ref _)]) rfl ?_
    refine b_sub [2, 1, 0] rfl ?_
    exact tfX12_image_131 n0 hO _ _ _
  · refine b_aload_n hO dX12_image_97 0 rfl rfl ?_
    refine b_aload_n hO dX12_image_98 0 rfl rfl ?_
    refine b_get hO flX12_165 kLY_0 (v := .ref (ad 31)) rfl dX12_image_99 ?_
    refine b_iconst hO dX12_image_102 ic_i_0 ?_
    refine b_iald hO kLY_31 (n := 22) rfl dX12_image_103 ?_
    refine b_iload_n hO dX12_image_104 1 rfl rfl ?_
    refine b_callSI hO mdX12_has2 w1576 w1575 (As := [.int _, .int _]) (st := [.ref _]) (ctX12_has2 n0 hO.2.2.2.2.2.2.1 _ _ _) (Nat.le_of_ble_eq_true rfl) rfl rfl (Nat.le_of_ble_eq_true rfl) dX12_image_105 (fun z105 => ?_)
    refine b_if_eq hO dX12_image_108 (tgt := 115) (by decide) ?_ ?_
    · refine b_iconst hO dX12_image_115 ic_i_0 ?_
      exact tfX12_image_116 n0 hO k84 hk84 _ _ _
    · refine b_iconst hO dX12_image_111 ic_i_1 ?_
      refine b_goto hO dX12_image_112 (tgt := 116) (by decide) ?_
      exact tfX12_image_116 n0 hO k84 hk84 _ _ _
theorem lX12_image_84 (n0 : Nat) (hO : OKc p (rmL 2) s m args meth c LY D cy ad cX12_image RX12 3 2 (some .int)) : ∀ (w : Nat) (x1 : Int32) (M : Mem), BL p l e (rmL 2) s m args below meth c LY D cy ad 3 (QI LY D cy ad) 84 [(0, .ref (ad 0)), (1, .int x1)] [] M (loopN (bX12_image_84 n0) (fun _ _ => none) w x1 M) := by
  intro w
  induction w with
  | zero =>
    intros
    exact b_none
  | succ w ih =>
    intro x1 M
    exact tbX12_image_84 n0 hO _ ih x1 M
theorem tfX12_image_84 (n0 : Nat) (hO : OKc p (rmL 2) s m args meth c LY D cy ad cX12_image RX12 3 2 (some .int)) (x1 : Int32) (M : Mem) : BL p l e (rmL 2) s m args below meth c LY D cy ad 3 (QI LY D cy ad) 84 [(0, .ref (ad 0)), (1, .int x1)] [] M (fX12_image_84 n0 x1 M) := lX12_image_84 n0 hO n0 x1 M
theorem tbX12_image_30 (n0 : Nat) (hO : OKc p (rmL 2) s m args meth c LY D cy ad cX12_image RX12 3 2 (some .int)) (k30 : Int32 → Mem → Option (Int32 × Mem)) (hk30 : ∀ (x1 : Int32) (M : Mem), BL p l e (rmL 2) s m args below meth c LY D cy ad 3 (QI LY D cy ad) 30 [(0, .ref (ad 0)), (1, .int x1)] [] M (k30 x1 M)) (x1 : Int32) (M : Mem) : BL p l e (rmL 2) s m args below meth c LY D cy ad 3 (QI LY D cy ad) 30 [(0, .ref (ad 0)), (1, .int x1)] [] M (bX12_image_30 n0 k30 x1 M) := by
  unfold bX12_image_30
  refine b_iload_n hO dX12_image_30 1 rfl rfl ?_
  refine b_aload_n hO dX12_image_31 0 rfl rfl ?_
  refine b_get hO flX12_63 kLY_0 (v := .ref (ad 5)) rfl dX12_image_32 ?_
  refine b_aload_n hO dX12_image_35 0 rfl rfl ?_
  refine b_get hO flX12_51 kLY_0 (v := .int (gI _ 13)) rfl dX12_image_36 ?_
  refine b_iald hO kLY_5 (n := 2) rfl dX12_image_39 ?_
  refine b_icmp_ge hO dX12_image_40 (tgt := 82) (by decide) ?_ ?_
  · refine b_iconst hO dX12_image_82 ic_i_0 ?_
    refine b_istore_n hO dX12_image_83 rfl (by decide) (lv' := [(1, .int _), (0, .ref _)]) rfl ?_
    refine b_sub [1, 0] rfl ?_
    exact tfX12_image_84 n0 hO _ _
  · refine b_aload_n hO dX12_image_43 0 rfl rfl ?_
    refine b_aload_n hO dX12_image_44 0 rfl rfl ?_
    refine b_get hO flX12_159 kLY_0 (v := .ref (ad 29)) rfl dX12_image_45 ?_
    refine b_iload_n hO dX12_image_48 1 rfl rfl ?_
    refine b_iald hO kLY_29 (n := 110) rfl dX12_image_49 ?_
    refine b_callVV hO mdX12_writes mvX12_writes w1864 (ci := 12) rfl rfl (by decide) kLY_0 (As := [.int _]) (st := []) (ctX12_writes n0 hO.2.2.2.2.2.2.1 _ _) (Nat.le_of_ble_eq_true rfl) rfl rfl (Nat.le_of_ble_eq_true rfl) dX12_image_50 (fun z50 => ?_)
    refine b_aload_n hO dX12_image_53 0 rfl rfl ?_
    refine b_aload_n hO dX12_image_54 0 rfl rfl ?_
    refine b_get hO flX12_162 kLY_0 (v := .ref (ad 30)) rfl dX12_image_55 ?_
    refine b_iload_n hO dX12_image_58 1 rfl rfl ?_
    refine b_iald hO kLY_30 (n := 110) rfl dX12_image_59 ?_
    refine b_bipush hO dX12_image_60 ic_b_8 ?_
    refine b_ishr hO dX12_image_62 ?_
    refine b_callVV hO mdX12_writes mvX12_writes w1864 (ci := 12) rfl rfl (by decide) kLY_0 (As := [.int _]) (st := []) (ctX12_writes n0 hO.2.2.2.2.2.2.1 _ _) (Nat.le_of_ble_eq_true rfl) rfl rfl (Nat.le_of_ble_eq_true rfl) dX12_image_63 (fun z63 => ?_)
    refine b_aload_n hO dX12_image_66 0 rfl rfl ?_
    refine b_aload_n hO dX12_image_67 0 rfl rfl ?_
    refine b_get hO flX12_162 kLY_0 (v := .ref (ad 30)) rfl dX12_image_68 ?_
    refine b_iload_n hO dX12_image_71 1 rfl rfl ?_
    refine b_iald hO kLY_30 (n := 110) rfl dX12_image_72 ?_
    refine b_callVV hO mdX12_writes mvX12_writes w1864 (ci := 12) rfl rfl (by decide) kLY_0 (As := [.int _]) (st := []) (ctX12_writes n0 hO.2.2.2.2.2.2.1 _ _) (Nat.le_of_ble_eq_true rfl) rfl rfl (Nat.le_of_ble_eq_true rfl) dX12_image_73 (fun z73 => ?_)
    refine b_iinc hO dX12_image_76 1 rfl ic_i_1 (by decide) (lv' := [(1, .int _), (0, .ref _)]) rfl ?_
    refine b_goto hO dX12_image_79 (tgt := 30) (by decide) ?_
    refine b_sub [1, 0] rfl ?_
    exact hk30 _ _
theorem lX12_image_30 (n0 : Nat) (hO : OKc p (rmL 2) s m args meth c LY D cy ad cX12_image RX12 3 2 (some .int)) : ∀ (w : Nat) (x1 : Int32) (M : Mem), BL p l e (rmL 2) s m args below meth c LY D cy ad 3 (QI LY D cy ad) 30 [(0, .ref (ad 0)), (1, .int x1)] [] M (loopN (bX12_image_30 n0) (fun _ _ => none) w x1 M) := by
  intro w
  induction w with
  | zero =>
    intros
    exact b_none
  | succ w ih =>
    intro x1 M
    exact tbX12_image_30 n0 hO _ ih x1 M
theorem tfX12_image_30 (n0 : Nat) (hO : OKc p (rmL 2) s m args meth c LY D cy ad cX12_image RX12 3 2 (some .int)) (x1 : Int32) (M : Mem) : BL p l e (rmL 2) s m args below meth c LY D cy ad 3 (QI LY D cy ad) 30 [(0, .ref (ad 0)), (1, .int x1)] [] M (fX12_image_30 n0 x1 M) := lX12_image_30 n0 hO n0 x1 M
theorem tfX12_image (n0 : Nat) (hO : OKc p (rmL 2) s m args meth c LY D cy ad cX12_image RX12 3 2 (some .int)) (M : Mem) : BL p l e (rmL 2) s m args below meth c LY D cy ad 3 (QI LY D cy ad) 0 [(0, .ref (ad 0))] [] M (fX12_image n0 M) := by
  unfold fX12_image
  refine b_aload_n hO dX12_image_0 0 rfl rfl ?_
  refine b_iconst hO dX12_image_1 ic_i_0 ?_
  refine b_putI hO flX12_216 kLY_0 rfl rfl rfl (id := 67) rfl dX12_image_2 ?_
  refine b_bnd (fun M2 => ?_)
  refine b_aload_n hO dX12_image_5 0 rfl rfl ?_
  refine b_aload_n hO dX12_image_6 0 rfl rfl ?_
  refine b_get hO flX12_156 kLY_0 (v := .ref (ad 28)) rfl dX12_image_7 ?_
  refine b_iconst hO dX12_image_10 ic_i_0 ?_
  refine b_iald hO kLY_28 (n := 22) rfl dX12_image_11 ?_
  refine b_bipush hO dX12_image_12 ic_b_8 ?_
  refine b_ishr hO dX12_image_14 ?_
  refine b_callVV hO mdX12_writes mvX12_writes w1864 (ci := 12) rfl rfl (by decide) kLY_0 (As := [.int _]) (st := []) (ctX12_writes n0 hO.2.2.2.2.2.2.1 _ _) (Nat.le_of_ble_eq_true rfl) rfl rfl (Nat.le_of_ble_eq_true rfl) dX12_image_15 (fun z15 => ?_)
  refine b_aload_n hO dX12_image_18 0 rfl rfl ?_
  refine b_aload_n hO dX12_image_19 0 rfl rfl ?_
  refine b_get hO flX12_156 kLY_0 (v := .ref (ad 28)) rfl dX12_image_20 ?_
  refine b_iconst hO dX12_image_23 ic_i_0 ?_
  refine b_iald hO kLY_28 (n := 22) rfl dX12_image_24 ?_
  refine b_callVV hO mdX12_writes mvX12_writes w1864 (ci := 12) rfl rfl (by decide) kLY_0 (As := [.int _]) (st := []) (ctX12_writes n0 hO.2.2.2.2.2.2.1 _ _) (Nat.le_of_ble_eq_true rfl) rfl rfl (Nat.le_of_ble_eq_true rfl) dX12_image_25 (fun z25 => ?_)
  refine b_iconst hO dX12_image_28 ic_i_0 ?_
  refine b_istore_n hO dX12_image_29 rfl (by decide) (lv' := [(1, .int _), (0, .ref _)]) rfl ?_
  refine b_sub [1, 0] rfl ?_
  exact tfX12_image_30 n0 hO _ _
theorem ctX12_image (n0 : Nat) (hI : Inj LY ad) (M : Mem) : CT l LY D cy ad yX12_image cX12_image 3 (some .int) 2 (QI LY D cy ad) [.ref (ad 0)] M (fX12_image n0 M) :=
  CT.mk LYok hI (by decide) (Nat.le_of_ble_eq_true rfl) (fun hO => tfX12_image n0 hO M)
/-! X12_octet -/
def fX12_octet (n0 : Nat) (x1 : Int32) (M : Mem) : Option (Int32 × Mem) :=
  (fX12_is n0 x1 (0 : Int32) ((gI M 67) - (1 : Int32)) M).bind fun z8 =>
  if z8.1 = 0 then
    some ((-1 : Int32), z8.2)
  else
    if oob x1 40 then none else
    some ((gA z8.2 43 (Int32.toNatClampNeg x1)), z8.2)
theorem tfX12_octet (n0 : Nat) (hO : OKc p (rmL 2) s m args meth c LY D cy ad cX12_octet RX12 2 2 (some .int)) (x1 : Int32) (M : Mem) : BL p l e (rmL 2) s m args below meth c LY D cy ad 2 (QI LY D cy ad) 0 [(0, .ref (ad 0)), (1, .int x1)] [] M (fX12_octet n0 x1 M) := by
  unfold fX12_octet
  refine b_iload_n hO dX12_octet_0 1 rfl rfl ?_
  refine b_iconst hO dX12_octet_1 ic_i_0 ?_
  refine b_aload_n hO dX12_octet_2 0 rfl rfl ?_
  refine b_get hO flX12_216 kLY_0 (v := .int (gI _ 67)) rfl dX12_octet_3 ?_
  refine b_iconst hO dX12_octet_6 ic_i_1 ?_
  refine b_isub hO dX12_octet_7 ?_
  refine b_callSI hO mdX12_is w1561 w1560 (As := [.int _, .int _, .int _]) (st := []) (ctX12_is n0 hO.2.2.2.2.2.2.1 _ _ _ _) (Nat.le_of_ble_eq_true rfl) rfl rfl (Nat.le_of_ble_eq_true rfl) dX12_octet_8 (fun z8 => ?_)
  refine b_if_eq hO dX12_octet_11 (tgt := 23) (by decide) ?_ ?_
  · refine b_iconst hO dX12_octet_23 ic_i_m1 ?_
    exact b_iret hO dX12_octet_24
  · refine b_aload_n hO dX12_octet_14 0 rfl rfl ?_
    refine b_get hO flX12_213 kLY_0 (v := .ref (ad 43)) rfl dX12_octet_15 ?_
    refine b_iload_n hO dX12_octet_18 1 rfl rfl ?_
    refine b_iald hO kLY_43 (n := 40) rfl dX12_octet_19 ?_
    refine b_goto hO dX12_octet_20 (tgt := 24) (by decide) ?_
    exact b_iret hO dX12_octet_24
theorem ctX12_octet (n0 : Nat) (hI : Inj LY ad) (x1 : Int32) (M : Mem) : CT l LY D cy ad yX12_octet cX12_octet 2 (some .int) 2 (QI LY D cy ad) [.ref (ad 0), .int x1] M (fX12_octet n0 x1 M) :=
  CT.mk LYok hI (by decide) (Nat.le_of_ble_eq_true rfl) (fun hO => tfX12_octet n0 hO x1 M)
end
