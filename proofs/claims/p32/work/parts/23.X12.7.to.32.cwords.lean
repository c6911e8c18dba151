section
section
variable {p : Program} {l : Launch} {e : Env} {s : State} {m : MethodId} {args : Array Value} {below : List Frame} {meth : Method} {c : Code} {D : va_G} {cy : Nat → ClassId} {ad : Nat → Nat} {dd : Nat}

/-! X12_see -/
def fX12_see_87 (n0 : Nat) (k34 : Int32 → Int32 → Int32 → Mem → Option (Int32 × Mem)) (x1 : Int32) (x3 : Int32) (u0 : Int32) (M : Mem) : Option (Int32 × Mem) :=
  k34 x1 u0 (x3 + (3 : Int32)) M
def fX12_see_86 (n0 : Nat) (k34 : Int32 → Int32 → Int32 → Mem → Option (Int32 × Mem)) (x1 : Int32) (x3 : Int32) (M : Mem) : Option (Int32 × Mem) :=
  fX12_see_87 n0 k34 x1 x3 (0 : Int32) M
def bX12_see_113 (n0 : Nat) (k113 : Int32 → Mem → Option (Int32 × Mem)) (x3 : Int32) (M : Mem) : Option (Int32 × Mem) :=
  if (gI M 61) ≤ x3 then
    some ((gI M 61), M)
  else
    if oob ((3 : Int32) * x3) 1800 then none else
    if oob x3 16 then none else
    bnd (sA M 39 (Int32.toNatClampNeg x3) (gA M 1 (Int32.toNatClampNeg ((3 : Int32) * x3)))) fun M134 =>
    if oob (((3 : Int32) * x3) + (1 : Int32)) 1800 then none else
    if oob x3 16 then none else
    bnd (sA M134 40 (Int32.toNatClampNeg x3) (gA M134 1 (Int32.toNatClampNeg (((3 : Int32) * x3) + (1 : Int32))))) fun M150 =>
    if oob (((3 : Int32) * x3) + (2 : Int32)) 1800 then none else
    if oob x3 16 then none else
    bnd (sA M150 41 (Int32.toNatClampNeg x3) (gA M150 1 (Int32.toNatClampNeg (((3 : Int32) * x3) + (2 : Int32))))) fun M166 =>
    k113 (x3 + (1 : Int32)) M166
def fX12_see_113 (n0 : Nat) : Int32 → Mem → Option (Int32 × Mem) := loopN (bX12_see_113 n0) (fun _ _ => none) n0
def fX12_see_94 (n0 : Nat) (x1 : Int32) (x2 : Int32) (M : Mem) : Option (Int32 × Mem) :=
  if x2 = 0 then
    (fX12_refuses n0 (5 : Int32) M).bind fun z100 =>
    some (z100.1, z100.2)
  else
    if (3 : Int32) = 0 then none else
    bnd (sI M 61 (x1 / (3 : Int32))) fun M108 =>
    fX12_see_113 n0 (0 : Int32) M108
def bX12_see_34 (n0 : Nat) (k34 : Int32 → Int32 → Int32 → Mem → Option (Int32 × Mem)) (x1 : Int32) (x2 : Int32) (x3 : Int32) (M : Mem) : Option (Int32 × Mem) :=
  if x1 ≤ x3 then
    fX12_see_94 n0 x1 x2 M
  else
    if x2 = 0 then
      fX12_see_94 n0 x1 x2 M
    else
      if oob x3 1800 then none else
      if (40 : Int32) < (gA M 1 (Int32.toNatClampNeg x3)) then
        fX12_see_86 n0 k34 x1 x3 M
      else
        if oob (x3 + (1 : Int32)) 1800 then none else
        (fX12_isCorner n0 (gA M 1 (Int32.toNatClampNeg (x3 + (1 : Int32)))) M).bind fun z63 =>
        if z63.1 = 0 then
          fX12_see_86 n0 k34 x1 x3 z63.2
        else
          if oob (x3 + (2 : Int32)) 1800 then none else
          if (23 : Int32) < (gA z63.2 1 (Int32.toNatClampNeg (x3 + (2 : Int32)))) then
            fX12_see_86 n0 k34 x1 x3 z63.2
          else
            fX12_see_87 n0 k34 x1 x3 (1 : Int32) z63.2
def fX12_see_34 (n0 : Nat) : Int32 → Int32 → Int32 → Mem → Option (Int32 × Mem) := loopN (bX12_see_34 n0) (fun _ _ _ _ => none) n0
def fX12_see_31 (n0 : Nat) (x1 : Int32) (u0 : Int32) (M : Mem) : Option (Int32 × Mem) :=
  fX12_see_34 n0 x1 u0 (0 : Int32) M
def fX12_see_30 (n0 : Nat) (x1 : Int32) (M : Mem) : Option (Int32 × Mem) :=
  fX12_see_31 n0 x1 (0 : Int32) M
def fX12_see (n0 : Nat) (M : Mem) : Option (Int32 × Mem) :=
  bnd (gI M 1) fun x1_4 =>
  bnd (sI M 1 (0 : Int32)) fun M7 =>
  if x1_4 ≤ 0 then
    fX12_see_30 n0 x1_4 M7
  else
    if (3 : Int32) = 0 then none else
    if (rem32 x1_4 (3 : Int32)) = 0 then
      if (48 : Int32) < x1_4 then
        fX12_see_30 n0 x1_4 M7
      else
        fX12_see_31 n0 x1_4 (1 : Int32) M7
    else
      fX12_see_30 n0 x1_4 M7
theorem tfX12_see_87 (n0 : Nat) (hO : OKc p (rmL 2) s m args meth c LY D cy ad cX12_see RX12 4 2 (some .int)) (k34 : Int32 → Int32 → Int32 → Mem → Option (Int32 × Mem)) (hk34 : ∀ (x1 : Int32) (x2 : Int32) (x3 : Int32) (M : Mem), BL p l e (rmL 2) s m args below meth c LY D cy ad 4 (QI LY D cy ad) 34 [(0, .ref (ad 0)), (1, .int x1), (2, .int x2), (3, .int x3)] [] M (k34 x1 x2 x3 M)) (x1 : Int32) (x3 : Int32) (u0 : Int32) (M : Mem) : BL p l e (rmL 2) s m args below meth c LY D cy ad 4 (QI LY D cy ad) 87 [(0, .ref (ad 0)), (1, .int x1), (3, .int x3)] [.int u0] M (fX12_see_87 n0 k34 x1 x3 u0 M) := by
  unfold fX12_see_87
  refine b_istore_n hO dX12_see_87 rfl (by decide) (lv' := [(2, .int _), (0, .ref _), (1, .int _), (3, .int _)]) rfl ?_
  refine b_iinc hO dX12_see_88 3 rfl ic_i_3 (by decide) (lv' := [(3, .int _), (2, .int _), (0, .ref _), (1, .int _)]) rfl ?_
  refine b_goto hO dX12_see_91 (tgt := 34) (by decide) ?_
  refine b_sub [2, 3, 1, 0] rfl ?_
  exact hk34 _ _ _ _
theorem tfX12_see_86 (n0 : Nat) (hO : OKc p (rmL 2) s m args meth c LY D cy ad cX12_see RX12 4 2 (some .int)) (k34 : Int32 → Int32 → Int32 → Mem → Option (Int32 × Mem)) (hk34 : ∀ (x1 : Int32) (x2 : Int32) (x3 : Int32) (M : Mem), BL p l e (rmL 2) s m args below meth c LY D cy ad 4 (QI LY D cy ad) 34 [(0, .ref (ad 0)), (1, .int x1), (2, .int x2), (3, .int x3)] [] M (k34 x1 x2 x3 M)) (x1 : Int32) (x3 : Int32) (M : Mem) : BL p l e (rmL 2) s m args below meth c LY D cy ad 4 (QI LY D cy ad) 86 [(0, .ref (ad 0)), (1, .int x1), (3, .int x3)] [] M (fX12_see_86 n0 k34 x1 x3 M) := by
  unfold fX12_see_86
  refine b_iconst hO dX12_see_86 ic_i_0 ?_
  exact tfX12_see_87 n0 hO k34 hk34 _ _ _ _
theorem tbX12_see_113 (n0 : Nat) (hO : OKc p (rmL 2) s m args meth c LY D cy ad cX12_see RX12 4 2 (some .int)) (k113 : Int32 → Mem → Option (Int32 × Mem)) (hk113 : ∀ (x3 : Int32) (M : Mem), BL p l e (rmL 2) s m args below meth c LY D cy ad 4 (QI LY D cy ad) 113 [(0, .ref (ad 0)), (3, .int x3)] [] M (k113 x3 M)) (x3 : Int32) (M : Mem) : BL p l e (rmL 2) s m args below meth c LY D cy ad 4 (QI LY D cy ad) 113 [(0, .ref (ad 0)), (3, .int x3)] [] M (bX12_see_113 n0 k113 x3 M) := by
  unfold bX12_see_113
  refine b_iload_n hO dX12_see_113 1 rfl rfl ?_
  refine b_aload_n hO dX12_see_114 0 rfl rfl ?_
  refine b_get hO flX12_198 kLY_0 (v := .int (gI _ 61)) rfl dX12_see_115 ?_
  refine b_icmp_ge hO dX12_see_118 (tgt := 173) (by decide) ?_ ?_
  · refine b_aload_n hO dX12_see_173 0 rfl rfl ?_
    refine b_get hO flX12_198 kLY_0 (v := .int (gI _ 61)) rfl dX12_see_174 ?_
    exact b_iret hO dX12_see_177
  · refine b_aload_n hO dX12_see_121 0 rfl rfl ?_
    refine b_get hO flX12_201 kLY_0 (v := .ref (ad 39)) rfl dX12_see_122 ?_
    refine b_iload_n hO dX12_see_125 1 rfl rfl ?_
    refine b_aload_n hO dX12_see_126 0 rfl rfl ?_
    refine b_get hO flX12_7 kLY_0 (v := .ref (ad 1)) rfl dX12_see_127 ?_
    refine b_iconst hO dX12_see_130 ic_i_3 ?_
    refine b_iload_n hO dX12_see_131 1 rfl rfl ?_
    refine b_imul hO dX12_see_132 ?_
    refine b_iald hO kLY_1 (n := 1800) rfl dX12_see_133 ?_
    refine b_iast hO kLY_39 (n := 16) rfl dX12_see_134 ?_
    refine b_bnd (fun M134 => ?_)
    refine b_aload_n hO dX12_see_135 0 rfl rfl ?_
    refine b_get hO flX12_204 kLY_0 (v := .ref (ad 40)) rfl dX12_see_136 ?_
    refine b_iload_n hO dX12_see_139 1 rfl rfl ?_
    refine b_aload_n hO dX12_see_140 0 rfl rfl ?_
    refine b_get hO flX12_7 kLY_0 (v := .ref (ad 1)) rfl dX12_see_141 ?_
    refine b_iconst hO dX12_see_144 ic_i_3 ?_
    refine b_iload_n hO dX12_see_145 1 rfl rfl ?_
    refine b_imul hO dX12_see_146 ?_
    refine b_iconst hO dX12_see_147 ic_i_1 ?_
    refine b_iadd hO dX12_see_148 ?_
    refine b_iald hO kLY_1 (n := 1800) rfl dX12_see_149 ?_
    refine b_iast hO kLY_40 (n := 16) rfl dX12_see_150 ?_
    refine b_bnd (fun M150 => ?_)
    refine b_aload_n hO dX12_see_151 0 rfl rfl ?_
    refine b_get hO flX12_207 kLY_0 (v := .ref (ad 41)) rfl dX12_see_152 ?_
    refine b_iload_n hO dX12_see_155 1 rfl rfl ?_
    refine b_aload_n hO dX12_see_156 0 rfl rfl ?_
    refine b_get hO flX12_7 kLY_0 (v := .ref (ad 1)) rfl dX12_see_157 ?_
    refine b_iconst hO dX12_see_160 ic_i_3 ?_
    refine b_iload_n hO dX12_see_161 1 rfl rfl ?_
    refine b_imul hO dX12_see_162 ?_
    refine b_iconst hO dX12_see_163 ic_i_2 ?_
    refine b_iadd hO dX12_see_164 ?_
    refine b_iald hO kLY_1 (n := 1800) rfl dX12_see_165 ?_
    refine b_iast hO kLY_41 (n := 16) rfl dX12_see_166 ?_
    refine b_bnd (fun M166 => ?_)
    refine b_iinc hO dX12_see_167 1 rfl ic_i_1 (by decide) (lv' := [(3, .int _), (0, .ref _)]) rfl ?_
    refine b_goto hO dX12_see_170 (tgt := 113) (by decide) ?_
    refine b_sub [1, 0] rfl ?_
    exact hk113 _ _
theorem lX12_see_113 (n0 : Nat) (hO : OKc p (rmL 2) s m args meth c LY D cy ad cX12_see RX12 4 2 (some .int)) : ∀ (w : Nat) (x3 : Int32) (M : Mem), BL p l e (rmL 2) s m args below meth c LY D cy ad 4 (QI LY D cy ad) 113 [(0, .ref (ad 0)), (3, .int x3)] [] M (loopN (bX12_see_113 n0) (fun _ _ => none) w x3 M) := by
  intro w
  induction w with
  | zero =>
    intros
    exact b_none
  | succ w ih =>
    intro x3 M
    exact tbX12_see_113 n0 hO _ ih x3 M
theorem tfX12_see_113 (n0 : Nat) (hO : OKc p (rmL 2) s m args meth c LY D cy ad cX12_see RX12 4 2 (some .int)) (x3 : Int32) (M : Mem) : BL p l e (rmL 2) s m args below meth c LY D cy ad 4 (QI LY D cy ad) 113 [(0, .ref (ad 0)), (3, .int x3)] [] M (fX12_see_113 n0 x3 M) := lX12_see_113 n0 hO n0 x3 M
theorem tfX12_see_94 (n0 : Nat) (hO : OKc p (rmL 2) s m args meth c LY D cy ad cX12_see RX12 4 2 (some .int)) (x1 : Int32) (x2 : Int32) (M : Mem) : BL p l e (rmL 2) s m args below meth c LY D cy ad 4 (QI LY D cy ad) 94 [(0, .ref (ad 0)), (1, .int x1), (2, .int x2)] [] M (fX12_see_94 n0 x1 x2 M) := by
  unfold fX12_see_94
  refine b_iload_n hO dX12_see_94 2 rfl rfl ?_
  refine b_if_ne hO dX12_see_95 (tgt := 104) (by decide) ?_ ?_
  · refine b_aload_n hO dX12_see_104 0 rfl rfl ?_
    refine b_iload_n hO dX12_see_105 1 rfl rfl ?_
    refine b_iconst hO dX12_see_106 ic_i_3 ?_
    refine b_idiv hO dX12_see_107 ?_
    refine b_putI hO flX12_198 kLY_0 rfl rfl rfl (id := 61) rfl dX12_see_108 ?_
    refine b_bnd (fun M108 => ?_)
    refine b_iconst hO dX12_see_111 ic_i_0 ?_
    refine b_istore_n hO dX12_see_112 rfl (by decide) (lv' := [(3, .int _), (0, .ref _), (1, .int _), (2, .int _)]) rfl ?_
    refine b_sub [1, 0] rfl ?_
    exact tfX12_see_113 n0 hO _ _
  · refine b_aload_n hO dX12_see_98 0 rfl rfl ?_
    refine b_iconst hO dX12_see_99 ic_i_5 ?_
    refine b_callVI hO mdX12_refuses mvX12_refuses w1453 (ci := 12) rfl rfl (by decide) kLY_0 (As := [.int _]) (st := []) (ctX12_refuses n0 hO.2.2.2.2.2.2.1 _ _) (Nat.le_of_ble_eq_true rfl) rfl rfl (Nat.le_of_ble_eq_true rfl) dX12_see_100 (fun z100 => ?_)
    exact b_iret hO dX12_see_103
theorem tbX12_see_34 (n0 : Nat) (hO : OKc p (rmL 2) s m args meth c LY D cy ad cX12_see RX12 4 2 (some .int)) (k34 : Int32 → Int32 → Int32 → Mem → Option (Int32 × Mem)) (hk34 : ∀ (x1 : Int32) (x2 : Int32) (x3 : Int32) (M : Mem), BL p l e (rmL 2) s m args below meth c LY D cy ad 4 (QI LY D cy ad) 34 [(0, .ref (ad 0)), (1, .int x1), (2, .int x2), (3, .int x3)] [] M (k34 x1 x2 x3 M)) (x1 : Int32) (x2 : Int32) (x3 : Int32) (M : Mem) : BL p l e (rmL 2) s m args below meth c LY D cy ad 4 (QI LY D cy ad) 34 [(0, .ref (ad 0)), (1, .int x1), (2, .int x2), (3, .int x3)] [] M (bX12_see_34 n0 k34 x1 x2 x3 M) := by
  unfold bX12_see_34
  refine b_iload_n hO dX12_see_34 3 rfl rfl ?_
  refine b_iload_n hO dX12_see_35 1 rfl rfl ?_
  refine b_icmp_ge hO dX12_see_36 (tgt := 94) (by decide) ?_ ?_
  · refine b_sub [0, 1, 2] rfl ?_
    exact tfX12_see_94 n0 hO _ _ _
  · refine b_iload_n hO dX12_see_39 2 rfl rfl ?_
    refine b_if_eq hO dX12_see_40 (tgt := 94) (by decide) ?_ ?_
    · refine b_sub [0, 1, 2] rfl ?_
      exact tfX12_see_94 n0 hO _ _ _
    · refine b_aload_n hO dX12_see_43 0 rfl rfl ?_
      refine b_get hO flX12_7 kLY_0 (v := .ref (ad 1)) rfl dX12_see_44 ?_
      refine b_iload_n hO dX12_see_47 3 rfl rfl ?_
      refine b_iald hO kLY_1 (n := 1800) rfl dX12_see_48 ?_
      refine b_bipush hO dX12_see_49 ic_b_40 ?_
      refine b_icmp_gt hO dX12_see_51 (tgt := 86) (by decide) ?_ ?_
      · refine b_sub [0, 1, 3] rfl ?_
        exact tfX12_see_86 n0 hO k34 hk34 _ _ _
      · refine b_aload_n hO dX12_see_54 0 rfl rfl ?_
        refine b_aload_n hO dX12_see_55 0 rfl rfl ?_
        refine b_get hO flX12_7 kLY_0 (v := .ref (ad 1)) rfl dX12_see_56 ?_
        refine b_iload_n hO dX12_see_59 3 rfl rfl ?_
        refine b_iconst hO dX12_see_60 ic_i_1 ?_
        refine b_iadd hO dX12_see_61 ?_
        refine b_iald hO kLY_1 (n := 1800) rfl dX12_see_62 ?_
        refine b_callVI hO mdX12_isCorner mvX12_isCorner w1733 (ci := 12) rfl rfl (by decide) kLY_0 (As := [.int _]) (st := []) (ctX12_isCorner n0 hO.2.2.2.2.2.2.1 _ _) (Nat.le_of_ble_eq_true rfl) rfl rfl (Nat.le_of_ble_eq_true rfl) dX12_see_63 (fun z63 => ?_)
        refine b_if_eq hO dX12_see_66 (tgt := 86) (by decide) ?_ ?_
        · refine b_sub [0, 1, 3] rfl ?_
          exact tfX12_see_86 n0 hO k34 hk34 _ _ _
        · refine b_aload_n hO dX12_see_69 0 rfl rfl ?_
          refine b_get hO flX12_7 kLY_0 (v := .ref (ad 1)) rfl dX12_see_70 ?_
          refine b_iload_n hO dX12_see_73 3 rfl rfl ?_
          refine b_iconst hO dX12_see_74 ic_i_2 ?_
          refine b_iadd hO dX12_see_75 ?_
          refine b_iald hO kLY_1 (n := 1800) rfl dX12_see_76 ?_
          refine b_bipush hO dX12_see_77 ic_b_23 ?_
          refine b_icmp_gt hO dX12_see_79 (tgt := 86) (by decide) ?_ ?_
          · refine b_sub [0, 1, 3] rfl ?_
            exact tfX12_see_86 n0 hO k34 hk34 _ _ _
          · refine b_iconst hO dX12_see_82 ic_i_1 ?_
            refine b_goto hO dX12_see_83 (tgt := 87) (by decide) ?_
            refine b_sub [0, 1, 3] rfl ?_
            exact tfX12_see_87 n0 hO k34 hk34 _ _ _ _
theorem lX12_see_34 (n0 : Nat) (hO : OKc p (rmL 2) s m args meth c LY D cy ad cX12_see RX12 4 2 (some .int)) : ∀ (w : Nat) (x1 : Int32) (x2 : Int32) (x3 : Int32) (M : Mem), BL p l e (rmL 2) s m args below meth c LY D cy ad 4 (QI LY D cy ad) 34 [(0, .ref (ad 0)), (1, .int x1), (2, .int x2), (3, .int x3)] [] M (loopN (bX12_see_34 n0) (fun _ _ _ _ => none) w x1 x2 x3 M) := by
  intro w
  induction w with
  | zero =>
    intros
    exact b_none
  | succ w ih =>
    intro x1 x2 x3 M
    exact tbX12_see_34 n0 hO _ ih x1 x2 x3 M
theorem tfX12_see_34 (n0 : Nat) (hO : OKc p (rmL 2) s m args meth c LY D cy ad cX12_see RX12 4 2 (some .int)) (x1 : Int32) (x2 : Int32) (x3 : Int32) (M : Mem) : BL p l e (rmL 2) s m args below meth c LY D cy ad 4 (QI LY D cy ad) 34 [(0, .ref (ad 0)), (1, .int x1), (2, .int x2), (3, .int x3)] [] M (fX12_see_34 n0 x1 x2 x3 M) := lX12_see_34 n0 hO n0 x1 x2 x3 M
theorem tfX12_see_31 (n0 : Nat) (hO : OKc p (rmL 2) s m args meth c LY D cy ad cX12_see RX12 4 2 (some .int)) (x1 : Int32) (u0 : Int32) (M : Mem) : BL p l e (rmL 2) s m args below meth c LY D cy ad 4 (QI LY D cy ad) 31 [(0, .ref (ad 0)), (1, .int x1)] [.int u0] M (fX12_see_31 n0 x1 u0 M) := by
  unfold fX12_see_31
  refine b_istore_n hO dX12_see_31 rfl (by decide) (lv' := [(2, .int _), (0, .ref _), (1, .int _)]) rfl ?_
  refine b_iconst hO dX12_see_32 ic_i_0 ?_
  refine b_istore_n hO dX12_see_33 rfl (by decide) (lv' := [(3, .int _), (2, .int _), (0, .ref _), (1, .int _)]) rfl ?_
  refine b_sub [2, 3, 1, 0] rfl ?_
  exact tfX12_see_34 n0 hO _ _ _ _
theorem tfX12_see_30 (n0 : Nat) (hO : OKc p (rmL 2) s m args meth c LY D cy ad cX12_see RX12 4 2 (some .int)) (x1 : Int32) (M : Mem) : BL p l e (rmL 2) s m args below meth c LY D cy ad 4 (QI LY D cy ad) 30 [(0, .ref (ad 0)), (1, .int x1)] [] M (fX12_see_30 n0 x1 M) := by
  unfold fX12_see_30
  refine b_iconst hO dX12_see_30 ic_i_0 ?_
  exact tfX12_see_31 n0 hO _ _ _
theorem tfX12_see (n0 : Nat) (hO : OKc p (rmL 2) s m args meth c LY D cy ad cX12_see RX12 4 2 (some .int)) (M : Mem) : BL p l e (rmL 2) s m args below meth c LY D cy ad 4 (QI LY D cy ad) 0 [(0, .ref (ad 0))] [] M (fX12_see n0 M) := by
  unfold fX12_see
  refine b_aload_n hO dX12_see_0 0 rfl rfl ?_
  refine b_get hO flX12_13 kLY_0 (v := .int (gI _ 1)) rfl dX12_see_1 ?_
  refine b_topI (fun x1_4 => ?_)
  refine b_istore_n hO dX12_see_4 rfl (by decide) (lv' := [(1, .int _), (0, .ref _)]) rfl ?_
  refine b_aload_n hO dX12_see_5 1 rfl rfl ?_
  refine b_iconst hO dX12_see_6 ic_i_0 ?_
  refine b_putI hO flX12_13 kLY_0 rfl rfl rfl (id := 1) rfl dX12_see_7 ?_
  refine b_bnd (fun M7 => ?_)
  refine b_iload_n hO dX12_see_10 0 rfl rfl ?_
  refine b_if_le hO dX12_see_11 (tgt := 30) (by decide) ?_ ?_
  · refine b_sub [1, 0] rfl ?_
    exact tfX12_see_30 n0 hO _ _
  · refine b_iload_n hO dX12_see_14 0 rfl rfl ?_
    refine b_iconst hO dX12_see_15 ic_i_3 ?_
    refine b_irem hO dX12_see_16 ?_
    refine b_if_ne hO dX12_see_17 (tgt := 30) (by decide) ?_ ?_
    · refine b_sub [1, 0] rfl ?_
      exact tfX12_see_30 n0 hO _ _
    · refine b_iload_n hO dX12_see_20 0 rfl rfl ?_
      refine b_bipush hO dX12_see_21 ic_b_48 ?_
      refine b_icmp_gt hO dX12_see_23 (tgt := 30) (by decide) ?_ ?_
      · refine b_sub [1, 0] rfl ?_
        exact tfX12_see_30 n0 hO _ _
      · refine b_iconst hO dX12_see_26 ic_i_1 ?_
        refine b_goto hO dX12_see_27 (tgt := 31) (by decide) ?_
        refine b_sub [1, 0] rfl ?_
        exact tfX12_see_31 n0 hO _ _ _
theorem ctX12_see (n0 : Nat) (hI : Inj LY ad) (M : Mem) : CT l LY D cy ad yX12_see cX12_see 4 (some .int) 2 (QI LY D cy ad) [.ref (ad 0)] M (fX12_see n0 M) :=
  CT.mk LYok hI (by decide) (Nat.le_of_ble_eq_true rfl) (fun hO => tfX12_see n0 hO M)
/-! X12_heldBits -/
def fX12_heldBits_121 (n0 : Nat) (k4 : Int32 → Int32 → Int32 → Mem → Option (Int32 × Mem)) (k36 : Int32 → Int32 → Int32 → Int32 → Int32 → Mem → Option (Int32 × Mem)) (k71 : Int32 → Int32 → Int32 → Int32 → Int32 → Int32 → Mem → Option (Int32 × Mem)) (x1 : Int32) (x2 : Int32) (x3 : Int32) (x5 : Int32) (x6 : Int32) (u0 : Int32) (u1 : Int32) (M : Mem) : Option (Int32 × Mem) :=
  bnd (u0 + u1) fun x4_122 =>
  k71 x1 x2 x3 x4_122 x5 (x6 + (1 : Int32)) M
def fX12_heldBits_120 (n0 : Nat) (k4 : Int32 → Int32 → Int32 → Mem → Option (Int32 × Mem)) (k36 : Int32 → Int32 → Int32 → Int32 → Int32 → Mem → Option (Int32 × Mem)) (k71 : Int32 → Int32 → Int32 → Int32 → Int32 → Int32 → Mem → Option (Int32 × Mem)) (x1 : Int32) (x2 : Int32) (x3 : Int32) (x5 : Int32) (x6 : Int32) (u0 : Int32) (M : Mem) : Option (Int32 × Mem) :=
  fX12_heldBits_121 n0 k4 k36 k71 x1 x2 x3 x5 x6 u0 (0 : Int32) M
def bX12_heldBits_71 (n0 : Nat) (k4 : Int32 → Int32 → Int32 → Mem → Option (Int32 × Mem)) (k36 : Int32 → Int32 → Int32 → Int32 → Int32 → Mem → Option (Int32 × Mem)) (k71 : Int32 → Int32 → Int32 → Int32 → Int32 → Int32 → Mem → Option (Int32 × Mem)) (x1 : Int32) (x2 : Int32) (x3 : Int32) (x4 : Int32) (x5 : Int32) (x6 : Int32) (M : Mem) : Option (Int32 × Mem) :=
  if (gI M 61) ≤ x6 then
    (fX12_ticks n0 (1 : Int32) M).bind fun z132 =>
    k36 x1 x2 x3 x4 (x5 + (1 : Int32)) z132
  else
    if oob x6 16 then none else
    if (gA M 39 (Int32.toNatClampNeg x6)) = x5 then
      if oob x6 16 then none else
      (fX12_hour n0 (1 : Int32) (gA M 40 (Int32.toNatClampNeg x6)) M).bind fun z103 =>
      if oob x6 16 then none else
      if z103.1 = (gA z103.2 41 (Int32.toNatClampNeg x6)) then
        fX12_heldBits_121 n0 k4 k36 k71 x1 x2 x3 x5 x6 x4 (1 : Int32) z103.2
      else
        fX12_heldBits_120 n0 k4 k36 k71 x1 x2 x3 x5 x6 x4 z103.2
    else
      fX12_heldBits_120 n0 k4 k36 k71 x1 x2 x3 x5 x6 x4 M
def fX12_heldBits_71 (n0 : Nat) (k4 : Int32 → Int32 → Int32 → Mem → Option (Int32 × Mem)) (k36 : Int32 → Int32 → Int32 → Int32 → Int32 → Mem → Option (Int32 × Mem)) : Int32 → Int32 → Int32 → Int32 → Int32 → Int32 → Mem → Option (Int32 × Mem) := loopN (bX12_heldBits_71 n0 k4 k36) (fun _ _ _ _ _ _ _ => none) n0
def fX12_heldBits_160 (n0 : Nat) (k4 : Int32 → Int32 → Int32 → Mem → Option (Int32 × Mem)) (x1 : Int32) (x3 : Int32) (u0 : Int32) (u1 : Int32) (M : Mem) : Option (Int32 × Mem) :=
  bnd (u0 ||| u1) fun x2_161 =>
  k4 x1 x2_161 (x3 + (1 : Int32)) M
def bX12_heldBits_36 (n0 : Nat) (k4 : Int32 → Int32 → Int32 → Mem → Option (Int32 × Mem)) (k36 : Int32 → Int32 → Int32 → Int32 → Int32 → Mem → Option (Int32 × Mem)) (x1 : Int32) (x2 : Int32) (x3 : Int32) (x4 : Int32) (x5 : Int32) (M : Mem) : Option (Int32 × Mem) :=
  (fX12_isAhead n0 x5 (0 : Int32) (40 : Int32) M).bind fun z42 =>
  if z42.1 = 0 then
    if x4 = (gI z42.2 61) then
      fX12_heldBits_160 n0 k4 x1 x3 x2 ((1 : Int32) <<< ((x3 + (1 : Int32)) &&& 31)) z42.2
    else
      fX12_heldBits_160 n0 k4 x1 x3 x2 (0 : Int32) z42.2
  else
    (fX12_hour n0 (1 : Int32) x1 z42.2).bind fun z64 =>
    if oob (((41 : Int32) * (x3 + (1 : Int32))) + x5) 287 then none else
    bnd (sA z64.2 42 (Int32.toNatClampNeg (((41 : Int32) * (x3 + (1 : Int32))) + x5)) z64.1) fun M67 =>
    fX12_heldBits_71 n0 k4 k36 x1 x2 x3 x4 x5 (0 : Int32) M67
def fX12_heldBits_36 (n0 : Nat) (k4 : Int32 → Int32 → Int32 → Mem → Option (Int32 × Mem)) : Int32 → Int32 → Int32 → Int32 → Int32 → Mem → Option (Int32 × Mem) := loopN (bX12_heldBits_36 n0 k4) (fun _ _ _ _ _ _ => none) n0
def bX12_heldBits_4 (n0 : Nat) (k4 : Int32 → Int32 → Int32 → Mem → Option (Int32 × Mem)) (x1 : Int32) (x2 : Int32) (x3 : Int32) (M : Mem) : Option (Int32 × Mem) :=
  if oob (gI M 13) 2 then none else
  if (gA M 2 (Int32.toNatClampNeg (gI M 13))) ≤ x3 then
    some (x2, M)
  else
    (fX12_copies n0 (1 : Int32) (0 : Int32) M).bind fun z20 =>
    (fX12_puts n0 (1 : Int32) x1 x3 z20).bind fun z27 =>
    fX12_heldBits_36 n0 k4 x1 x2 x3 (0 : Int32) (0 : Int32) z27
def fX12_heldBits_4 (n0 : Nat) : Int32 → Int32 → Int32 → Mem → Option (Int32 × Mem) := loopN (bX12_heldBits_4 n0) (fun _ _ _ _ => none) n0
def fX12_heldBits (n0 : Nat) (x1 : Int32) (M : Mem) : Option (Int32 × Mem) :=
  fX12_heldBits_4 n0 x1 (0 : Int32) (-1 : Int32) M
theorem tfX12_heldBits_121 (n0 : Nat) (hO : OKc p (rmL 6) s m args meth c LY D cy ad cX12_heldBits RX12 7 6 (some .int)) (k4 : Int32 → Int32 → Int32 → Mem → Option (Int32 × Mem)) (k36 : Int32 → Int32 → Int32 → Int32 → Int32 → Mem → Option (Int32 × Mem)) (k71 : Int32 → Int32 → Int32 → Int32 → Int32 → Int32 → Mem → Option (Int32 × Mem)) (hk4 : ∀ (x1 : Int32) (x2 : Int32) (x3 : Int32) (M : Mem), BL p l e (rmL 6) s m args below meth c LY D cy ad 7 (QI LY D cy ad) 4 [(0, .ref (ad 0)), (1, .int x1), (2, .int x2), (3, .int x3)] [] M (k4 x1 x2 x3 M)) (hk36 : ∀ (x1 : Int32) (x2 : Int32) (x3 : Int32) (x4 : Int32) (x5 : Int32) (M : Mem), BL p l e (rmL 6) s m args below meth c LY D cy ad 7 (QI LY D cy ad) 36 [(0, .ref (ad 0)), (1, .int x1), (2, .int x2), (3, .int x3), (4, .int x4), (5, .int x5)] [] M (k36 x1 x2 x3 x4 x5 M)) (hk71 : ∀ (x1 : Int32) (x2 : Int32) (x3 : Int32) (x4 : Int32) (x5 : Int32) (x6 : Int32) (M : Mem), BL p l e (rmL 6) s m args below meth c LY D cy ad 7 (QI LY D cy ad) 71 [(0, .ref (ad 0)), (1, .int x1), (2, .int x2), (3, .int x3), (4, .int x4), (5, .int x5), (6, .int x6)] [] M (k71 x1 x2 x3 x4 x5 x6 M)) (x1 : Int32) (x2 : Int32) (x3 : Int32) (x5 : Int32) (x6 : Int32) (u0 : Int32) (u1 : Int32) (M : Mem) : BL p l e (rmL 6) s m args below meth c LY D cy ad 7 (QI LY D cy ad) 121 [(0, .ref (ad 0)), (1, .int x1), (2, .int x2), (3, .int x3), (5, .int x5), (6, .int x6)] [.int u1, .int u0] M (fX12_heldBits_121 n0 k4 k36 k71 x1 x2 x3 x5 x6 u0 u1 M) := by
  unfold fX12_heldBits_121
  refine b_iadd hO dX12_heldBits_121 ?_
  refine b_topI (fun x4_122 => ?_)
  refine b_istore hO dX12_heldBits_122 (by decide) (lv' := [(4, .int _), (0, .ref _), (1, .int _), (2, .int _), (3, .int _), (5, .int _), (6, .int _)]) rfl ?_
  refine b_iinc hO dX12_heldBits_124 6 rfl ic_i_1 (by decide) (lv' := [(6, .int _), (4, .int _), (0, .ref _), (1, .int _), (2, .int _), (3, .int _), (5, .int _)]) rfl ?_
  refine b_goto hO dX12_heldBits_127 (tgt := 71) (by decide) ?_
  refine b_sub [2, 3, 4, 5, 1, 6, 0] rfl ?_
  exact hk71 _ _ _ _ _ _ _
theorem tfX12_heldBits_120 (n0 : Nat) (hO : OKc p (rmL 6) s m args meth c LY D cy ad cX12_heldBits RX12 7 6 (some .int)) (k4 : Int32 → Int32 → Int32 → Mem → Option (Int32 × Mem)) (k36 : Int32 → Int32 → Int32 → Int32 → Int32 → Mem → Option (Int32 × Mem)) (k71 : Int32 → Int32 → Int32 → Int32 → Int32 → Int32 → Mem → Option (Int32 × Mem)) (hk4 : ∀ (x1 : Int32) (x2 : Int32) (x3 : Int32) (M : Mem), BL p l e (rmL 6) s m args below meth c LY D cy ad 7 (QI LY D cy ad) 4 [(0, .ref (ad 0)), (1, .int x1), (2, .int x2), (3, .int x3)] [] M (k4 x1 x2 x3 M)) (hk36 : ∀ (x1 : Int32) (x2 : Int32) (x3 : Int32) (x4 : Int32) (x5 : Int32) (M : Mem), BL p l e (rmL 6) s m args below meth c LY D cy ad 7 (QI LY D cy ad) 36 [(0, .ref (ad 0)), (1, .int x1), (2, .int x2), (3, .int x3), (4, .int x4), (5, .int x5)] [] M (k36 x1 x2 x3 x4 x5 M)) (hk71 : ∀ (x1 : Int32) (x2 : Int32) (x3 : Int32) (x4 : Int32) (x5 : Int32) (x6 : Int32) (M : Mem), BL p l e (rmL 6) s m args below meth c LY D cy ad 7 (QI LY D cy ad) 71 [(0, .ref (ad 0)), (1, .int x1), (2, .int x2), (3, .int x3), (4, .int x4), (5, .int x5), (6, .int x6)] [] M (k71 x1 x2 x3 x4 x5 x6 M)) (x1 : Int32) (x2 : Int32) (x3 : Int32) (x5 : Int32) (x6 : Int32) (u0 : Int32) (M : Mem) : BL p l e (rmL 6) s m args below meth c LY D cy ad 7 (QI LY D cy ad) 120 [(0, .ref (ad 0)), (1, .int x1), (2, .int x2), (3, .int x3), (5, .int x5), (6, .int x6)] [.int u0] M (fX12_heldBits_120 n0 k4 k36 k71 x1 x2 x3 x5 x6 u0 M) := by
  unfold fX12_heldBits_120
  refine b_iconst hO dX12_heldBits_120 ic_i_0 ?_
  exact tfX12_heldBits_121 n0 hO k4 k36 k71 hk4 hk36 hk71 _ _ _ _ _ _ _ _
theorem tbX12_heldBits_71 (n0 : Nat) (hO : OKc p (rmL 6) s m args meth c LY D cy ad cX12_heldBits RX12 7 6 (some .int)) (k4 : Int32 → Int32 → Int32 → Mem → Option (Int32 × Mem)) (k36 : Int32 → Int32 → Int32 → Int32 → Int32 → Mem → Option (Int32 × Mem)) (k71 : Int32 → Int32 → Int32 → Int32 → Int32 → Int32 → Mem → Option (Int32 × Mem)) (hk4 : ∀ (x1 : Int32) (x2 : Int32) (x3 : Int32) (M : Mem), BL p l e (rmL 6) s m args below meth c LY D cy ad 7 (QI LY D cy ad) 4 [(0, .ref (ad 0)), (1, .int x1), (2, .int x2), (3, .int x3)] [] M (k4 x1 x2 x3 M)) (hk36 : ∀ (x1 : Int32) (x2 : Int32) (x3 : Int32) (x4 : Int32) (x5 : Int32) (M : Mem), BL p l e (rmL 6) s m args below meth c LY D cy ad 7 (QI LY D cy ad) 36 [(0, .ref (ad 0)), (1, .int x1), (2, .int x2), (3, .int x3), (4, .int x4), (5, .int x5)] [] M (k36 x1 x2 x3 x4 x5 M)) (hk71 : ∀ (x1 : Int32) (x2 : Int32) (x3 : Int32) (x4 : Int32) (x5 : Int32) (x6 : Int32) (M : Mem), BL p l e (rmL 6) s m args below meth c LY D cy ad 7 (QI LY D cy ad) 71 [(0, .ref (ad 0)), (1, .int x1), (2, .int x2), (3, .int x3), (4, .int x4), (5, .int x5), (6, .int x6)] [] M (k71 x1 x2 x3 x4 x5 x6 M)) (x1 : Int32) (x2 : Int32) (x3 : Int32) (x4 : Int32) (x5 : Int32) (x6 : Int32) (M : Mem) : BL p l e (rmL 6) s m args below meth c LY D cy ad 7 (QI LY D cy ad) 71 [(0, .ref (ad 0)), (1, .int x1), (2, .int x2), (3, .int x3), (4, .int x4), (5, .int x5), (6, .int x6)] [] M (bX12_heldBits_71 n0 k4 k36 k71 x1 x2 x3 x4 x5 x6 M) := by
  unfold bX12_heldBits_71
  refine b_iload hO dX12_heldBits_71 6 rfl ?_
  refine b_aload_n hO dX12_heldBits_73 0 rfl rfl ?_
  refine b_get hO flX12_198 kLY_0 (v := .int (gI _ 61)) rfl dX12_heldBits_74 ?_
  refine b_icmp_ge hO dX12_heldBits_77 (tgt := 130) (by decide) ?_ ?_
  · refine b_aload_n hO dX12_heldBits_130 0 rfl rfl ?_
    refine b_iconst hO dX12_heldBits_131 ic_i_1 ?_
    refine b_callVV hO mdX12_ticks mvX12_ticks w1757 (ci := 12) rfl rfl (by decide) kLY_0 (As := [.int _]) (st := []) (ctX12_ticks n0 hO.2.2.2.2.2.2.1 _ _) (Nat.le_of_ble_eq_true rfl) rfl rfl (Nat.le_of_ble_eq_true rfl) dX12_heldBits_132 (fun z132 => ?_)
    refine b_iinc hO dX12_heldBits_135 5 rfl ic_i_1 (by decide) (lv' := [(5, .int _), (0, .ref _), (1, .int _), (2, .int _), (3, .int _), (4, .int _), (6, .int _)]) rfl ?_
    refine b_goto hO dX12_heldBits_138 (tgt := 36) (by decide) ?_
    refine b_sub [1, 2, 3, 4, 5, 0] rfl ?_
    exact hk36 _ _ _ _ _ _
  · refine b_iload hO dX12_heldBits_80 4 rfl ?_
    refine b_aload_n hO dX12_heldBits_82 0 rfl rfl ?_
    refine b_get hO flX12_201 kLY_0 (v := .ref (ad 39)) rfl dX12_heldBits_83 ?_
    refine b_iload hO dX12_heldBits_86 6 rfl ?_
    refine b_iald hO kLY_39 (n := 16) rfl dX12_heldBits_88 ?_
    refine b_iload hO dX12_heldBits_89 5 rfl ?_
    refine b_icmp_ne hO dX12_heldBits_91 (tgt := 120) (by decide) ?_ ?_
    · refine b_sub [0, 1, 2, 3, 5, 6] rfl ?_
      exact tfX12_heldBits_120 n0 hO k4 k36 k71 hk4 hk36 hk71 _ _ _ _ _ _ _
    · refine b_aload_n hO dX12_heldBits_94 0 rfl rfl ?_
      refine b_iconst hO dX12_heldBits_95 ic_i_1 ?_
      refine b_aload_n hO dX12_heldBits_96 0 rfl rfl ?_
      refine b_get hO flX12_204 kLY_0 (v := .ref (ad 40)) rfl dX12_heldBits_97 ?_
      refine b_iload hO dX12_heldBits_100 6 rfl ?_
      refine b_iald hO kLY_40 (n := 16) rfl dX12_heldBits_102 ?_
      refine b_callVI hO mdX12_hour mvX12_hour w1657 (ci := 12) rfl rfl (by decide) kLY_0 (As := [.int _, .int _]) (st := [.int _]) (ctX12_hour n0 hO.2.2.2.2.2.2.1 _ _ _) (Nat.le_of_ble_eq_true rfl) rfl rfl (Nat.le_of_ble_eq_true rfl) dX12_heldBits_103 (fun z103 => ?_)
      refine b_aload_n hO dX12_heldBits_106 0 rfl rfl ?_
      refine b_get hO flX12_207 kLY_0 (v := .ref (ad 41)) rfl dX12_heldBits_107 ?_
      refine b_iload hO dX12_heldBits_110 6 rfl ?_
      refine b_iald hO kLY_41 (n := 16) rfl dX12_heldBits_112 ?_
      refine b_icmp_ne hO dX12_heldBits_113 (tgt := 120) (by decide) ?_ ?_
      · refine b_sub [0, 1, 2, 3, 5, 6] rfl ?_
        exact tfX12_heldBits_120 n0 hO k4 k36 k71 hk4 hk36 hk71 _ _ _ _ _ _ _
      · refine b_iconst hO dX12_heldBits_116 ic_i_1 ?_
        refine b_goto hO dX12_heldBits_117 (tgt := 121) (by decide) ?_
        refine b_sub [0, 1, 2, 3, 5, 6] rfl ?_
        exact tfX12_heldBits_121 n0 hO k4 k36 k71 hk4 hk36 hk71 _ _ _ _ _ _ _ _
theorem lX12_heldBits_71 (n0 : Nat) (hO : OKc p (rmL 6) s m args meth c LY D cy ad cX12_heldBits RX12 7 6 (some .int)) (k4 : Int32 → Int32 → Int32 → Mem → Option (Int32 × Mem)) (k36 : Int32 → Int32 → Int32 → Int32 → Int32 → Mem → Option (Int32 × Mem)) (hk4 : ∀ (x1 : Int32) (x2 : Int32) (x3 : Int32) (M : Mem), BL p l e (rmL 6) s m args below meth c LY D cy ad 7 (QI LY D cy ad) 4 [(0, .ref (ad 0)), (1, .int x1), (2, .int x2), (3, .int x3)] [] M (k4 x1 x2 x3 M)) (hk36 : ∀ (x1 : Int32) (x2 : Int32) (x3 : Int32) (x4 : Int32) (x5 : Int32) (M : Mem), BL p l e (rmL 6) s m args below meth c LY D cy ad 7 (QI LY D cy ad) 36 [(0, .ref (ad 0)), (1, .int x1), (2, .int x2), (3, .int x3), (4, .int x4), (5, .int x5)] [] M (k36 x1 x2 x3 x4 x5 M)) : ∀ (w : Nat) (x1 : Int32) (x2 : Int32) (x3 : Int32) (x4 : Int32) (x5 : Int32) (x6 : Int32) (M : Mem), BL p l e (rmL 6) s m args below meth c LY D cy ad 7 (QI LY D cy ad) 71 [(0, .ref (ad 0)), (1, .int x1), (2, .int x2), (3, .int x3), (4, .int x4), (5, .int x5), (6, .int x6)] [] M (loopN (bX12_heldBits_71 n0 k4 k36) (fun _ _ _ _ _ _ _ => none) w x1 x2 x3 x4 x5 x6 M) := by
  intro w
  induction w with
  | zero =>
    intros
    exact b_none
  | succ w ih =>
    intro x1 x2 x3 x4 x5 x6 M
    exact tbX12_heldBits_71 n0 hO k4 k36 _ hk4 hk36 ih x1 x2 x3 x4 x5 x6 M
theorem tfX12_heldBits_71 (n0 : Nat) (hO : OKc p (rmL 6) s m args meth c LY D cy ad cX12_heldBits RX12 7 6 (some .int)) (k4 : Int32 → Int32 → Int32 → Mem → Option (Int32 × Mem)) (k36 : Int32 → Int32 → Int32 → Int32 → Int32 → Mem → Option (Int32 × Mem)) (hk4 : ∀ (x1 : Int32) (x2 : Int32) (x3 : Int32) (M : Mem), BL p l e (rmL 6) s m args below meth c LY D cy ad 7 (QI LY D cy ad) 4 [(0, .ref (ad 0)), (1, .int x1), (2, .int x2), (3, .int x3)] [] M (k4 x1 x2 x3 M)) (hk36 : ∀ (x1 : Int32) (x2 : Int32) (x3 : Int32) (x4 : Int32) (x5 : Int32) (M : Mem), BL p l e (rmL 6) s m args below meth c LY D cy ad 7 (QI LY D cy ad) 36 [(0, .ref (ad 0)), (1, .int x1), (2, .int x2), (3, .int x3), (4, .int x4), (5, .int x5)] [] M (k36 x1 x2 x3 x4 x5 M)) (x1 : Int32) (x2 : Int32) (x3 : Int32) (x4 : Int32) (x5 : Int32) (x6 : Int32) (M : Mem) : BL p l e (rmL 6) s m args below meth c LY D cy ad 7 (QI LY D cy ad) 71 [(0, .ref (ad 0)), (1, .int x1), (2, .int x2), (3, .int x3), (4, .int x4), (5, .int x5), (6, .int x6)] [] M (fX12_heldBits_71 n0 k4 k36 x1 x2 x3 x4 x5 x6 M) := lX12_heldBits_71 n0 hO k4 k36 hk4 hk36 n0 x1 x2 x3 x4 x5 x6 M
theorem tfX12_heldBits_160 (n0 : Nat) (hO : OKc p (rmL 6) s m args meth c LY D cy ad cX12_heldBits RX12 7 6 (some .int)) (k4 : Int32 → Int32 → Int32 → Mem → Option (Int32 × Mem)) (hk4 : ∀ (x1 : Int32) (x2 : Int32) (x3 : Int32) (M : Mem), BL p l e (rmL 6) s m args below meth c LY D cy ad 7 (QI LY D cy ad) 4 [(0, .ref (ad 0)), (1, .int x1), (2, .int x2), (3, .int x3)] [] M (k4 x1 x2 x3 M)) (x1 : Int32) (x3 : Int32) (u0 : Int32) (u1 : Int32) (M : Mem) : BL p l e (rmL 6) s m args below meth c LY D cy ad 7 (QI LY D cy ad) 160 [(0, .ref (ad 0)), (1, .int x1), (3, .int x3)] [.int u1, .int u0] M (fX12_heldBits_160 n0 k4 x1 x3 u0 u1 M) := by
  unfold fX12_heldBits_160
  refine b_ior hO dX12_heldBits_160 ?_
  refine b_topI (fun x2_161 => ?_)
  refine b_istore_n hO dX12_heldBits_161 rfl (by decide) (lv' := [(2, .int _), (0, .ref _), (1, .int _), (3, .int _)]) rfl ?_
  refine b_iinc hO dX12_heldBits_162 3 rfl ic_i_1 (by decide) (lv' := [(3, .int _), (2, .int _), (0, .ref _), (1, .int _)]) rfl ?_
  refine b_goto hO dX12_heldBits_165 (tgt := 4) (by decide) ?_
  refine b_sub [2, 3, 1, 0] rfl ?_
  exact hk4 _ _ _ _
theorem tbX12_heldBits_36 (n0 : Nat) (hO : OKc p (rmL 6) s m args meth c LY D cy ad cX12_heldBits RX12 7 6 (some .int)) (k4 : Int32 → Int32 → Int32 → Mem → Option (Int32 × Mem)) (k36 : Int32 → Int32 → Int32 → Int32 → Int32 → Mem → Option (Int32 × Mem)) (hk4 : ∀ (x1 : Int32) (x2 : Int32) (x3 : Int32) (M : Mem), BL p l e (rmL 6) s m args below meth c LY D cy ad 7 (QI LY D cy ad) 4 [(0, .ref (ad 0)), (1, .int x1), (2, .int x2), (3, .int x3)] [] M (k4 x1 x2 x3 M)) (hk36 : ∀ (x1 : Int32) (x2 : Int32) (x3 : Int32) (x4 : Int32) (x5 : Int32) (M : Mem), BL p l e (rmL 6) s m args below meth c LY D cy ad 7 (QI LY D cy ad) 36 [(0, .ref (ad 0)), (1, .int x1), (2, .int x2), (3, .int x3), (4, .int x4), (5, .int x5)] [] M (k36 x1 x2 x3 x4 x5 M)) (x1 : Int32) (x2 : Int32) (x3 : Int32) (x4 : Int32) (x5 : Int32) (M : Mem) : BL p l e (rmL 6) s m args below meth c LY D cy ad 7 (QI LY D cy ad) 36 [(0, .ref (ad 0)), (1, .int x1), (2, .int x2), (3, .int x3), (4, .int x4), (5, .int x5)] [] M (bX12_heldBits_36 n0 k4 k36 x1 x2 x3 x4 x5 M) := by
  unfold bX12_heldBits_36
  refine b_aload_n hO dX12_heldBits_36 0 rfl rfl ?_
  refine b_iload hO dX12_heldBits_37 5 rfl ?_
  refine b_iconst hO dX12_heldBits_39 ic_i_0 ?_
  refine b_bipush hO dX12_heldBits_40 ic_b_40 ?_
  refine b_callVI hO mdX12_isAhead mvX12_isAhead w1749 (ci := 12) rfl rfl (by decide) kLY_0 (As := [.int _, .int _, .int _]) (st := []) (ctX12_isAhead n0 hO.2.2.2.2.2.2.1 _ _ _ _) (Nat.le_of_ble_eq_true rfl) rfl rfl (Nat.le_of_ble_eq_true rfl) dX12_heldBits_42 (fun z42 => ?_)
  refine b_if_eq hO dX12_heldBits_45 (tgt := 141) (by decide) ?_ ?_
  · refine b_iload_n hO dX12_heldBits_141 2 rfl rfl ?_
    refine b_iload hO dX12_heldBits_142 4 rfl ?_
    refine b_aload_n hO dX12_heldBits_144 0 rfl rfl ?_
    refine b_get hO flX12_198 kLY_0 (v := .int (gI _ 61)) rfl dX12_heldBits_145 ?_
    refine b_icmp_ne hO dX12_heldBits_148 (tgt := 159) (by decide) ?_ ?_
    · refine b_iconst hO dX12_heldBits_159 ic_i_0 ?_
      refine b_sub [0, 1, 3] rfl ?_
      exact tfX12_heldBits_160 n0 hO k4 hk4 _ _ _ _ _
    · refine b_iconst hO dX12_heldBits_151 ic_i_1 ?_
      refine b_iload_n hO dX12_heldBits_152 3 rfl rfl ?_
      refine b_iconst hO dX12_heldBits_153 ic_i_1 ?_
      refine b_iadd hO dX12_heldBits_154 ?_
      refine b_ishl hO dX12_heldBits_155 ?_
      refine b_goto hO dX12_heldBits_156 (tgt := 160) (by decide) ?_
      refine b_sub [0, 1, 3] rfl ?_
      exact tfX12_heldBits_160 n0 hO k4 hk4 _ _ _ _ _
  · refine b_aload_n hO dX12_heldBits_48 0 rfl rfl ?_
    refine b_get hO flX12_210 kLY_0 (v := .ref (ad 42)) rfl dX12_heldBits_49 ?_
    refine b_bipush hO dX12_heldBits_52 ic_b_41 ?_
    refine b_iload_n hO dX12_heldBits_54 3 rfl rfl ?_
    refine b_iconst hO dX12_heldBits_55 ic_i_1 ?_
    refine b_iadd hO dX12_heldBits_56 ?_
    refine b_imul hO dX12_heldBits_57 ?_
    refine b_iload hO dX12_heldBits_58 5 rfl ?_
    refine b_iadd hO dX12_heldBits_60 ?_
    refine b_aload_n hO dX12_heldBits_61 0 rfl rfl ?_
    refine b_iconst hO dX12_heldBits_62 ic_i_1 ?_
    refine b_iload_n hO dX12_heldBits_63 1 rfl rfl ?_
    refine b_callVI hO mdX12_hour mvX12_hour w1657 (ci := 12) rfl rfl (by decide) kLY_0 (As := [.int _, .int _]) (st := [.int _, .ref _]) (ctX12_hour n0 hO.2.2.2.2.2.2.1 _ _ _) (Nat.le_of_ble_eq_true rfl) rfl rfl (Nat.le_of_ble_eq_true rfl) dX12_heldBits_64 (fun z64 => ?_)
    refine b_iast hO kLY_42 (n := 287) rfl dX12_heldBits_67 ?_
    refine b_bnd (fun M67 => ?_)
    refine b_iconst hO dX12_heldBits_68 ic_i_0 ?_
    refine b_istore hO dX12_heldBits_69 (by decide) (lv' := [(6, .int _), (0, .ref _), (1, .int _), (2, .int _), (3, .int _), (4, .int _), (5, .int _)]) rfl ?_
    refine b_sub [1, 2, 3, 4, 5, 6, 0] rfl ?_
    exact tfX12_heldBits_71 n0 hO k4 k36 hk4 hk36 _ _ _ _ _ _ _
theorem lX12_heldBits_36 (n0 : Nat) (hO : OKc p (rmL 6) s m args meth c LY D cy ad cX12_heldBits RX12 7 6 (some .int)) (k4 : Int32 → Int32 → Int32 → Mem → Option (Int32 × Mem)) (hk4 : ∀ (x1 : Int32) (x2 : Int32) (x3 : Int32) (M : Mem), BL p l e (rmL 6) s m args below meth c LY D cy ad 7 (QI LY D cy ad) 4 [(0, .ref (ad 0)), (1, .int x1), (2, .int x2), (3, .int x3)] [] M (k4 x1 x2 x3 M)) : ∀ (w : Nat) (x1 : Int32) (x2 : Int32) (x3 : Int32) (x4 : Int32) (x5 : Int32) (M : Mem), BL p l e (rmL 6) s m args below meth c LY D cy ad 7 (QI LY D cy ad) 36 [(0, .ref (ad 0)), (1, .int x1), (2, .int x2), (3, .int x3), (4, .int x4), (5, .int x5)] [] M (loopN (bX12_heldBits_36 n0 k4) (fun _ _ _ _ _ _ => none) w x1 x2 x3 x4 x5 M) := by
  intro w
  induction w with
  | zero =>
    intros
    exact b_none
  | succ w ih =>
    intro x1 x2 x3 x4 x5 M
    exact tbX12_heldBits_36 n0 hO k4 _ hk4 ih x1 x2 x3 x4 x5 M
theorem tfX12_heldBits_36 (n0 : Nat) (hO : OKc p (rmL 6) s m args meth c LY D cy ad cX12_heldBits RX12 7 6 (some .int)) (k4 : Int32 → Int32 → Int32 → Mem → Option (Int32 × Mem)) (hk4 : ∀ (x1 : Int32) (x2 : Int32) (x3 : Int32) (M : Mem), BL p l e (rmL 6) s m args below meth c LY D cy ad 7 (QI LY D cy ad) 4 [(0, .ref (ad 0)), (1, .int x1), (2, .int x2), (3, .int x3)] [] M (k4 x1 x2 x3 M)) (x1 : Int32) (x2 : Int32) (x3 : Int32) (x4 : Int32) (x5 : Int32) (M : Mem) : BL p l e (rmL 6) s m args below meth c LY D cy ad 7 (QI LY D cy ad) 36 [(0, .ref (ad 0)), (1, .int x1), (2, .int x2), (3, .int x3), (4, .int x4), (5, .int x5)] [] M (fX12_heldBits_36 n0 k4 x1 x2 x3 x4 x5 M) := lX12_heldBits_36 n0 hO k4 hk4 n0 x1 x2 x3 x4 x5 M
theorem tbX12_heldBits_4 (n0 : Nat) (hO : OKc p (rmL 6) s m args meth c LY D cy ad cX12_heldBits RX12 7 6 (some .int)) (k4 : Int32 → Int32 → Int32 → Mem → Option (Int32 × Mem)) (hk4 : ∀ (x1 : Int32) (x2 : Int32) (x3 : Int32) (M : Mem), BL p l e (rmL 6) s m args below meth c LY D cy ad 7 (QI LY D cy ad) 4 [(0, .ref (ad 0)), (1, .int x1), (2, .int x2), (3, .int x3)] [] M (k4 x1 x2 x3 M)) (x1 : Int32) (x2 : Int32) (x3 : Int32) (M : Mem) : BL p l e (rmL 6) s m args below meth c LY D cy ad 7 (QI LY D cy ad) 4 [(0, .ref (ad 0)), (1, .int x1), (2, .int x2), (3, .int x3)] [] M (bX12_heldBits_4 n0 k4 x1 x2 x3 M) := by
  unfold bX12_heldBits_4
  refine b_iload_n hO dX12_heldBits_4 3 rfl rfl ?_
  refine b_aload_n hO dX12_heldBits_5 0 rfl rfl ?_
  refine b_get hO flX12_54 kLY_0 (v := .ref (ad 2)) rfl dX12_heldBits_6 ?_
  refine b_aload_n hO dX12_heldBits_9 0 rfl rfl ?_
  refine b_get hO flX12_51 kLY_0 (v := .int (gI _ 13)) rfl dX12_heldBits_10 ?_
  refine b_iald hO kLY_2 (n := 2) rfl dX12_heldBits_13 ?_
  refine b_icmp_ge hO dX12_heldBits_14 (tgt := 168) (by decide) ?_ ?_
  · refine b_iload_n hO dX12_heldBits_168 2 rfl rfl ?_
    exact b_iret hO dX12_heldBits_169
  · refine b_aload_n hO dX12_heldBits_17 0 rfl rfl ?_
    refine b_iconst hO dX12_heldBits_18 ic_i_1 ?_
    refine b_iconst hO dX12_heldBits_19 ic_i_0 ?_
    refine b_callVV hO mdX12_copies mvX12_copies w1705 (ci := 12) rfl rfl (by decide) kLY_0 (As := [.int _, .int _]) (st := []) (ctX12_copies n0 hO.2.2.2.2.2.2.1 _ _ _) (Nat.le_of_ble_eq_true rfl) rfl rfl (Nat.le_of_ble_eq_true rfl) dX12_heldBits_20 (fun z20 => ?_)
    refine b_aload_n hO dX12_heldBits_23 0 rfl rfl ?_
    refine b_iconst hO dX12_heldBits_24 ic_i_1 ?_
    refine b_iload_n hO dX12_heldBits_25 1 rfl rfl ?_
    refine b_iload_n hO dX12_heldBits_26 3 rfl rfl ?_
    refine b_callVV hO mdX12_puts mvX12_puts w1765 (ci := 12) rfl rfl (by decide) kLY_0 (As := [.int _, .int _, .int _]) (st := []) (ctX12_puts n0 hO.2.2.2.2.2.2.1 _ _ _ _) (Nat.le_of_ble_eq_true rfl) rfl rfl (Nat.le_of_ble_eq_true rfl) dX12_heldBits_27 (fun z27 => ?_)
    refine b_iconst hO dX12_heldBits_30 ic_i_0 ?_
    refine b_istore hO dX12_heldBits_31 (by decide) (lv' := [(4, .int _), (0, .ref _), (1, .int _), (2, .int _), (3, .int _)]) rfl ?_
    refine b_iconst hO dX12_heldBits_33 ic_i_0 ?_
    refine b_istore hO dX12_heldBits_34 (by decide) (lv' := [(5, .int _), (4, .int _), (0, .ref _), (1, .int _), (2, .int _), (3, .int _)]) rfl ?_
    refine b_sub [2, 3, 4, 5, 1, 0] rfl ?_
    exact tfX12_heldBits_36 n0 hO k4 hk4 _ _ _ _ _ _
theorem lX12_heldBits_4 (n0 : Nat) (hO : OKc p (rmL 6) s m args meth c LY D cy ad cX12_heldBits RX12 7 6 (some .int)) : ∀ (w : Nat) (x1 : Int32) (x2 : Int32) (x3 : Int32) (M : Mem), BL p l e (rmL 6) s m args below meth c LY D cy ad 7 (QI LY D cy ad) 4 [(0, .ref (ad 0)), (1, .int x1), (2, .int x2), (3, .int x3)] [] M (loopN (bX12_heldBits_4 n0) (fun _ _ _ _ => none) w x1 x2 x3 M) := by
  intro w
  induction w with
  | zero =>
    intros
    exact b_none
  | succ w ih =>
    intro x1 x2 x3 M
    exact tbX12_heldBits_4 n0 hO _ ih x1 x2 x3 M
theorem tfX12_heldBits_4 (n0 : Nat) (hO : OKc p (rmL 6) s m args meth c LY D cy ad cX12_heldBits RX12 7 6 (some .int)) (x1 : Int32) (x2 : Int32) (x3 : Int32) (M : Mem) : BL p l e (rmL 6) s m args below meth c LY D cy ad 7 (QI LY D cy ad) 4 [(0, .ref (ad 0)), (1, .int x1), (2, .int x2), (3, .int x3)] [] M (fX12_heldBits_4 n0 x1 x2 x3 M) := lX12_heldBits_4 n0 hO n0 x1 x2 x3 M
theorem tfX12_heldBits (n0 : Nat) (hO : OKc p (rmL 6) s m args meth c LY D cy ad cX12_heldBits RX12 7 6 (some .int)) (x1 : Int32) (M : Mem) : BL p l e (rmL 6) s m args below meth c LY D cy ad 7 (QI LY D cy ad) 0 [(0, .ref (ad 0)), (1, .int x1)] [] M (fX12_heldBits n0 x1 M) := by
  unfold fX12_heldBits
  refine b_iconst hO dX12_heldBits_0 ic_i_0 ?_
  refine b_istore_n hO dX12_heldBits_1 rfl (by decide) (lv' := [(2, .int _), (0, .ref _), (1, .int _)]) rfl ?_
  refine b_iconst hO dX12_heldBits_2 ic_i_m1 ?_
  refine b_istore_n hO dX12_heldBits_3 rfl (by decide) (lv' := [(3, .int _), (2, .int _), (0, .ref _), (1, .int _)]) rfl ?_
  refine b_sub [2, 3, 1, 0] rfl ?_
  exact tfX12_heldBits_4 n0 hO _ _ _ _
theorem ctX12_heldBits (n0 : Nat) (hI : Inj LY ad) (x1 : Int32) (M : Mem) : CT l LY D cy ad yX12_heldBits cX12_heldBits 7 (some .int) 6 (QI LY D cy ad) [.ref (ad 0), .int x1] M (fX12_heldBits n0 x1 M) :=
  CT.mk LYok hI (by decide) (Nat.le_of_ble_eq_true rfl) (fun hO => tfX12_heldBits n0 hO x1 M)
/-! X12_held -/
def fX12_held (n0 : Nat) (x1 : Int32) (M : Mem) : Option (Int32 × Mem) :=
  (fX12_isCorner n0 x1 M).bind fun z2 =>
  if z2.1 = 0 then
    some ((-1 : Int32), z2.2)
  else
    (fX12_heldBits n0 x1 z2.2).bind fun z10 =>
    some (z10.1, z10.2)
theorem tfX12_held (n0 : Nat) (hO : OKc p (rmL 7) s m args meth c LY D cy ad cX12_held RX12 2 7 (some .int)) (x1 : Int32) (M : Mem) : BL p l e (rmL 7) s m args below meth c LY D cy ad 2 (QI LY D cy ad) 0 [(0, .ref (ad 0)), (1, .int x1)] [] M (fX12_held n0 x1 M) := by
  unfold fX12_held
  refine b_aload_n hO dX12_held_0 0 rfl rfl ?_
  refine b_iload_n hO dX12_held_1 1 rfl rfl ?_
  refine b_callVI hO mdX12_isCorner mvX12_isCorner w1733 (ci := 12) rfl rfl (by decide) kLY_0 (As := [.int _]) (st := []) (ctX12_isCorner n0 hO.2.2.2.2.2.2.1 _ _) (Nat.le_of_ble_eq_true rfl) rfl rfl (Nat.le_of_ble_eq_true rfl) dX12_held_2 (fun z2 => ?_)
  refine b_if_eq hO dX12_held_5 (tgt := 16) (by decide) ?_ ?_
  · refine b_iconst hO dX12_held_16 ic_i_m1 ?_
    exact b_iret hO dX12_held_17
  · refine b_aload_n hO dX12_held_8 0 rfl rfl ?_
    refine b_iload_n hO dX12_held_9 1 rfl rfl ?_
    refine b_callVI hO mdX12_heldBits mvX12_heldBits w1816 (ci := 12) rfl rfl (by decide) kLY_0 (As := [.int _]) (st := []) (ctX12_heldBits n0 hO.2.2.2.2.2.2.1 _ _) (Nat.le_of_ble_eq_true rfl) rfl rfl (Nat.le_of_ble_eq_true rfl) dX12_held_10 (fun z10 => ?_)
    refine b_goto hO dX12_held_13 (tgt := 17) (by decide) ?_
    exact b_iret hO dX12_held_17
theorem ctX12_held (n0 : Nat) (hI : Inj LY ad) (x1 : Int32) (M : Mem) : CT l LY D cy ad yX12_held cX12_held 2 (some .int) 7 (QI LY D cy ad) [.ref (ad 0), .int x1] M (fX12_held n0 x1 M) :=
  CT.mk LYok hI (by decide) (Nat.le_of_ble_eq_true rfl) (fun hO => tfX12_held n0 hO x1 M)
/-! X12_tells -/
def fX12_tells_146 (n0 : Nat) (k36 : Int32 → Int32 → Int32 → Int32 → Int32 → Mem → Option (Int32 × Mem)) (k58 : Int32 → Int32 → Int32 → Int32 → Int32 → Int32 → Int32 → Mem → Option (Int32 × Mem)) (k78 : Int32 → Int32 → Int32 → Int32 → Int32 → Int32 → Int32 → Int32 → Int32 → Mem → Option (Int32 × Mem)) (x2 : Int32) (x3 : Int32) (x4 : Int32) (x5 : Int32) (x6 : Int32) (x7 : Int32) (x8 : Int32) (x10 : Int32) (u0 : Int32) (u1 : Int32) (M : Mem) : Option (Int32 × Mem) :=
  bnd (u0 + u1) fun x9_147 =>
  k78 x2 x3 x4 x5 x6 x7 x8 x9_147 (x10 + (1 : Int32)) M
def fX12_tells_145 (n0 : Nat) (k36 : Int32 → Int32 → Int32 → Int32 → Int32 → Mem → Option (Int32 × Mem)) (k58 : Int32 → Int32 → Int32 → Int32 → Int32 → Int32 → Int32 → Mem → Option (Int32 × Mem)) (k78 : Int32 → Int32 → Int32 → Int32 → Int32 → Int32 → Int32 → Int32 → Int32 → Mem → Option (Int32 × Mem)) (x2 : Int32) (x3 : Int32) (x4 : Int32) (x5 : Int32) (x6 : Int32) (x7 : Int32) (x8 : Int32) (x10 : Int32) (u0 : Int32) (M : Mem) : Option (Int32 × Mem) :=
  fX12_tells_146 n0 k36 k58 k78 x2 x3 x4 x5 x6 x7 x8 x10 u0 (0 : Int32) M
def fX12_tells_169 (n0 : Nat) (k36 : Int32 → Int32 → Int32 → Int32 → Int32 → Mem → Option (Int32 × Mem)) (k58 : Int32 → Int32 → Int32 → Int32 → Int32 → Int32 → Int32 → Mem → Option (Int32 × Mem)) (x2 : Int32) (x3 : Int32) (x4 : Int32) (x5 : Int32) (x6 : Int32) (x8 : Int32) (u0 : Int32) (M : Mem) : Option (Int32 × Mem) :=
  k58 x2 x3 x4 x5 x6 u0 (x8 + (1 : Int32)) M
def bX12_tells_78 (n0 : Nat) (k36 : Int32 → Int32 → Int32 → Int32 → Int32 → Mem → Option (Int32 × Mem)) (k58 : Int32 → Int32 → Int32 → Int32 → Int32 → Int32 → Int32 → Mem → Option (Int32 × Mem)) (k78 : Int32 → Int32 → Int32 → Int32 → Int32 → Int32 → Int32 → Int32 → Int32 → Mem → Option (Int32 × Mem)) (x2 : Int32) (x3 : Int32) (x4 : Int32) (x5 : Int32) (x6 : Int32) (x7 : Int32) (x8 : Int32) (x9 : Int32) (x10 : Int32) (M : Mem) : Option (Int32 × Mem) :=
  if oob (gI M 13) 2 then none else
  if (gA M 2 (Int32.toNatClampNeg (gI M 13))) < x10 then
    if x9 ≤ x7 then
      fX12_tells_169 n0 k36 k58 x2 x3 x4 x5 x6 x8 x7 M
    else
      fX12_tells_169 n0 k36 k58 x2 x3 x4 x5 x6 x8 x9 M
  else
    (fX12_has2 n0 x3 x8 M).bind fun z97 =>
    if z97.1 = 0 then
      fX12_tells_145 n0 k36 k58 k78 x2 x3 x4 x5 x6 x7 x8 x10 x9 z97.2
    else
      (fX12_has2 n0 x3 x10 z97.2).bind fun z106 =>
      if z106.1 = 0 then
        fX12_tells_145 n0 k36 k58 k78 x2 x3 x4 x5 x6 x7 x8 x10 x9 z106.2
      else
        if oob (((41 : Int32) * x8) + x6) 287 then none else
        if oob (((41 : Int32) * x10) + x6) 287 then none else
        if (gA z106.2 42 (Int32.toNatClampNeg (((41 : Int32) * x8) + x6))) = (gA z106.2 42 (Int32.toNatClampNeg (((41 : Int32) * x10) + x6))) then
          fX12_tells_146 n0 k36 k58 k78 x2 x3 x4 x5 x6 x7 x8 x10 x9 (1 : Int32) z106.2
        else
          fX12_tells_145 n0 k36 k58 k78 x2 x3 x4 x5 x6 x7 x8 x10 x9 z106.2
def fX12_tells_78 (n0 : Nat) (k36 : Int32 → Int32 → Int32 → Int32 → Int32 → Mem → Option (Int32 × Mem)) (k58 : Int32 → Int32 → Int32 → Int32 → Int32 → Int32 → Int32 → Mem → Option (Int32 × Mem)) : Int32 → Int32 → Int32 → Int32 → Int32 → Int32 → Int32 → Int32 → Int32 → Mem → Option (Int32 × Mem) := loopN (bX12_tells_78 n0 k36 k58) (fun _ _ _ _ _ _ _ _ _ _ => none) n0
def fX12_tells_195 (n0 : Nat) (k36 : Int32 → Int32 → Int32 → Int32 → Int32 → Mem → Option (Int32 × Mem)) (x2 : Int32) (x3 : Int32) (x4 : Int32) (x5 : Int32) (x6 : Int32) (M : Mem) : Option (Int32 × Mem) :=
  k36 x2 x3 x4 x5 (x6 + (1 : Int32)) M
def bX12_tells_58 (n0 : Nat) (k36 : Int32 → Int32 → Int32 → Int32 → Int32 → Mem → Option (Int32 × Mem)) (k58 : Int32 → Int32 → Int32 → Int32 → Int32 → Int32 → Int32 → Mem → Option (Int32 × Mem)) (x2 : Int32) (x3 : Int32) (x4 : Int32) (x5 : Int32) (x6 : Int32) (x7 : Int32) (x8 : Int32) (M : Mem) : Option (Int32 × Mem) :=
  if oob (gI M 13) 2 then none else
  if (gA M 2 (Int32.toNatClampNeg (gI M 13))) < x8 then
    if x7 < x5 then
      fX12_tells_195 n0 k36 x2 x3 x6 x7 x6 M
    else
      fX12_tells_195 n0 k36 x2 x3 x4 x5 x6 M
  else
    fX12_tells_78 n0 k36 k58 x2 x3 x4 x5 x6 x7 x8 (0 : Int32) (0 : Int32) M
def fX12_tells_58 (n0 : Nat) (k36 : Int32 → Int32 → Int32 → Int32 → Int32 → Mem → Option (Int32 × Mem)) : Int32 → Int32 → Int32 → Int32 → Int32 → Int32 → Int32 → Mem → Option (Int32 × Mem) := loopN (bX12_tells_58 n0 k36) (fun _ _ _ _ _ _ _ _ => none) n0
def fX12_tells_201 (n0 : Nat) (x2 : Int32) (x4 : Int32) (x5 : Int32) (M : Mem) : Option (Int32 × Mem) :=
  if x4 = (-1 : Int32) then
    some (x4, M)
  else
    if x2 = 0 then
      some (x4, M)
    else
      some (x5, M)
def bX12_tells_36 (n0 : Nat) (k36 : Int32 → Int32 → Int32 → Int32 → Int32 → Mem → Option (Int32 × Mem)) (x2 : Int32) (x3 : Int32) (x4 : Int32) (x5 : Int32) (x6 : Int32) (M : Mem) : Option (Int32 × Mem) :=
  (fX12_isAhead n0 x6 (0 : Int32) (40 : Int32) M).bind fun z42 =>
  if z42.1 = 0 then
    fX12_tells_201 n0 x2 x4 x5 z42.2
  else
    if x3 = 0 then
      fX12_tells_201 n0 x2 x4 x5 z42.2
    else
      fX12_tells_58 n0 k36 x2 x3 x4 x5 x6 (0 : Int32) (0 : Int32) z42.2
def fX12_tells_36 (n0 : Nat) : Int32 → Int32 → Int32 → Int32 → Int32 → Mem → Option (Int32 × Mem) := loopN (bX12_tells_36 n0) (fun _ _ _ _ _ _ => none) n0
def fX12_tells (n0 : Nat) (x1 : Int32) (x2 : Int32) (M : Mem) : Option (Int32 × Mem) :=
  (fX12_isCorner n0 x1 M).bind fun z2 =>
  if z2.1 = 0 then
    some ((-1 : Int32), z2.2)
  else
    (fX12_is n0 x2 (0 : Int32) (1 : Int32) z2.2).bind fun z11 =>
    if z11.1 = 0 then
      some ((-1 : Int32), z11.2)
    else
      (fX12_heldBits n0 x1 z11.2).bind fun z21 =>
      fX12_tells_36 n0 x2 z21.1 (-1 : Int32) (100000000 : Int32) (0 : Int32) z21.2
theorem tfX12_tells_146 (n0 : Nat) (hO : OKc p (rmL 7) s m args meth c LY D cy ad cX12_tells RX12 11 7 (some .int)) (k36 : Int32 → Int32 → Int32 → Int32 → Int32 → Mem → Option (Int32 × Mem)) (k58 : Int32 → Int32 → Int32 → Int32 → Int32 → Int32 → Int32 → Mem → Option (Int32 × Mem)) (k78 : Int32 → Int32 → Int32 → Int32 → Int32 → Int32 → Int32 → Int32 → Int32 → Mem → Option (Int32 × Mem)) (hk36 : ∀ (x2 : Int32) (x3 : Int32) (x4 : Int32) (x5 : Int32) (x6 : Int32) (M : Mem), BL p l e (rmL 7) s m args below meth c LY D cy ad 11 (QI LY D cy ad) 36 [(0, .ref (ad 0)), (2, .int x2), (3, .int x3), (4, .int x4), (5, .int x5), (6, .int x6)] [] M (k36 x2 x3 x4 x5 x6 M)) (hk58 : ∀ (x2 : Int32) (x3 : Int32) (x4 : Int32) (x5 : Int32) (x6 : Int32) (x7 : Int32) (x8 : Int32) (M : Mem), BL p l e (rmL 7) s m args below meth c LY D cy ad 11 (QI LY D cy ad) 58 [(0, .ref (ad 0)), (2, .int x2), (3, .int x3), (4, .int x4), (5, .int x5), (6, .int x6), (7, .int x7), (8, .int x8)] [] M (k58 x2 x3 x4 x5 x6 x7 x8 M)) (hk78 : ∀ (x2 : Int32) (x3 : Int32) (x4 : Int32) (x5 : Int32) (x6 : Int32) (x7 : Int32) (x8 : Int32) (x9 : Int32) (x10 : Int32) (M : Mem), BL p l e (rmL 7) s m args below meth c LY D cy ad 11 (QI LY D cy ad) 78 [(0, .ref (ad 0)), (2, .int x2), (3, .int x3), (4, .int x4), (5, .int x5), (6, .int x6), (7, .int x7), (8, .int x8), (9, .int x9), (10, .int x10)] [] M (k78 x2 x3 x4 x5 x6 x7 x8 x9 x10 M)) (x2 : Int32) (x3 : Int32) (x4 : Int32) (x5 : Int32) (x6 : Int32) (x7 : Int32) (x8 : Int32) (x10 : Int32) (u0 : Int32) (u1 : Int32) (M : Mem) : BL p l e (rmL 7) s m args below meth c LY D cy ad 11 (QI LY D cy ad) 146 [(0, .ref (ad 0)), (2, .int x2), (3, .int x3), (4, .int x4), (5, .int x5), (6, .int x6), (7, .int x7), (8, .int x8), (10, .int x10)] [.int u1, .int u0] M (fX12_tells_146 n0 k36 k58 k78 x2 x3 x4 x5 x6 x7 x8 x10 u0 u1 M) := by
  unfold fX12_tells_146
  refine b_iadd hO dX12_tells_146 ?_
  refine b_topI (fun x9_147 => ?_)
  refine b_istore hO dX12_tells_147 (by decide) (lv' := [(9, .int _), (0, .ref _), (2, .int _), (3, .int _), (4, .int _), (5, .int _), (6, .int _), (7, .int _), (8, .int _), (10, .int _)]) rfl ?_
  refine b_iinc hO dX12_tells_149 9 rfl ic_i_1 (by decide) (lv' := [(10, .int _), (9, .int _), (0, .ref _), (2, .int _), (3, .int _), (4, .int _), (5, .int _), (6, .int _), (7, .int _), (8, .int _)]) rfl ?_
  refine b_goto hO dX12_tells_152 (tgt := 78) (by decide) ?_
  refine b_sub [2, 3, 4, 5, 6, 7, 8, 9, 1, 0] rfl ?_
  exact hk78 _ _ _ _ _ _ _ _ _ _
theorem tfX12_tells_145 (n0 : Nat) (hO : OKc p (rmL 7) s m args meth c LY D cy ad cX12_tells RX12 11 7 (some .int)) (k36 : Int32 → Int32 → Int32 → Int32 → Int32 → Mem → Option (Int32 × Mem)) (k58 : Int32 → Int32 → Int32 → Int32 → Int32 → Int32 → Int32 → Mem → Option (Int32 × Mem)) (k78 : Int32 → Int32 → Int32 → Int32 → Int32 → Int32 → Int32 → Int32 → Int32 → Mem → Option (Int32 × Mem)) (hk36 : ∀ (x2 : Int32) (x3 : Int32) (x4 : Int32) (x5 : Int32) (x6 : Int32) (M : Mem), BL p l e (rmL 7) s m args below meth c LY D cy ad 11 (QI LY D cy ad) 36 [(0, .ref (ad 0)), (2, .int x2), (3, .int x3), (4, .int x4), (5, .int x5), (6, .int x6)] [] M (k36 x2 x3 x4 x5 x6 M)) (hk58 : ∀ (x2 : Int32) (x3 : Int32) (x4 : Int32) (x5 : Int32) (x6 : Int32) (x7 : Int32) (x8 : Int32) (M : Mem), BL p l e (rmL 7) s m args below meth c LY D cy ad 11 (QI LY D cy ad) 58 [(0, .ref (ad 0)), (2, .int x2), (3, .int x3), (4, .int x4), (5, .int x5), (6, .int x6), (7, .int x7), (8, .int x8)] [] M (k58 x2 x3 x4 x5 x6 x7 x8 M)) (hk78 : ∀ (x2 : Int32) (x3 : Int32) (x4 : Int32) (x5 : Int32) (x6 : Int32) (x7 : Int32) (x8 : Int32) (x9 : Int32) (x10 : Int32) (M : Mem), BL p l e (rmL 7) s m args below meth c LY D cy ad 11 (QI LY D cy ad) 78 [(0, .ref (ad 0)), (2, .int x2), (3, .int x3), (4, .int x4), (5, .int x5), (6, .int x6), (7, .int x7), (8, .int x8), (9, .int x9), (10, .int x10)] [] M (k78 x2 x3 x4 x5 x6 x7 x8 x9 x10 M)) (x2 : Int32) (x3 : Int32) (x4 : Int32) (x5 : Int32) (x6 : Int32) (x7 : Int32) (x8 : Int32) (x10 : Int32) (u0 : Int32) (M : Mem) : BL p l e (rmL 7) s m args below meth c LY D cy ad 11 (QI LY D cy ad) 145 [(0, .ref (ad 0)), (2, .int x2), (3, .int x3), (4, .int x4), (5, .int x5), (6, .int x6), (7, .int x7), (8, .int x8), (10, .int x10)] [.int u0] M (fX12_tells_145 n0 k36 k58 k78 x2 x3 x4 x5 x6 x7 x8 x10 u0 M) := by
  unfold fX12_tells_145
  refine b_iconst hO dX12_tells_145 ic_i_0 ?_
  exact tfX12_tells_146 n0 hO k36 k58 k78 hk36 hk58 hk78 _ _ _ _ _ _ _ _ _ _ _
theorem tfX12_tells_169 (n0 : Nat) (hO : OKc p (rmL 7) s m args meth c LY D cy ad cX12_tells RX12 11 7 (some .int)) (k36 : Int32 → Int32 → Int32 → Int32 → Int32 → Mem → Option (Int32 × Mem)) (k58 : Int32 → Int32 → Int32 → Int32 → Int32 → Int32 → Int32 → Mem → Option (Int32 × Mem)) (hk36 : ∀ (x2 : Int32) (x3 : Int32) (x4 : Int32) (x5 : Int32) (x6 : Int32) (M : Mem), BL p l e (rmL 7) s m args below meth c LY D cy ad 11 (QI LY D cy ad) 36 [(0, .ref (ad 0)), (2, .int x2), (3, .int x3), (4, .int x4), (5, .int x5), (6, .int x6)] [] M (k36 x2 x3 x4 x5 x6 M)) (hk58 : ∀ (x2 : Int32) (x3 : Int32) (x4 : Int32) (x5 : Int32) (x6 : Int32) (x7 : Int32) (x8 : Int32) (M : Mem), BL p l e (rmL 7) s m args below meth c LY D cy ad 11 (QI LY D cy ad) 58 [(0, .ref (ad 0)), (2, .int x2), (3, .int x3), (4, .int x4), (5, .int x5), (6, .int x6), (7, .int x7), (8, .int x8)] [] M (k58 x2 x3 x4 x5 x6 x7 x8 M)) (x2 : Int32) (x3 : Int32) (x4 : Int32) (x5 : Int32) (x6 : Int32) (x8 : Int32) (u0 : Int32) (M : Mem) : BL p l e (rmL 7) s m args below meth c LY D cy ad 11 (QI LY D cy ad) 169 [(0, .ref (ad 0)), (2, .int x2), (3, .int x3), (4, .int x4), (5, .int x5), (6, .int x6), (8, .int x8)] [.int u0] M (fX12_tells_169 n0 k36 k58 x2 x3 x4 x5 x6 x8 u0 M) := by
  unfold fX12_tells_169
  refine b_istore hO dX12_tells_169 (by decide) (lv' := [(7, .int _), (0, .ref _), (2, .int _), (3, .int _), (4, .int _), (5, .int _), (6, .int _), (8, .int _)]) rfl ?_
  refine b_iinc hO dX12_tells_171 7 rfl ic_i_1 (by decide) (lv' := [(8, .int _), (7, .int _), (0, .ref _), (2, .int _), (3, .int _), (4, .int _), (5, .int _), (6, .int _)]) rfl ?_
  refine b_goto hO dX12_tells_174 (tgt := 58) (by decide) ?_
  refine b_sub [2, 3, 4, 5, 6, 7, 1, 0] rfl ?_
  exact hk58 _ _ _ _ _ _ _ _
theorem tbX12_tells_78 (n0 : Nat) (hO : OKc p (rmL 7) s m args meth c LY D cy ad cX12_tells RX12 11 7 (some .int)) (k36 : Int32 → Int32 → Int32 → Int32 → Int32 → Mem → Option (Int32 × Mem)) (k58 : Int32 → Int32 → Int32 → Int32 → Int32 → Int32 → Int32 → Mem → Option (Int32 × Mem)) (k78 : Int32 → Int32 → Int32 → Int32 → Int32 → Int32 → Int32 → Int32 → Int32 → Mem → Option (Int32 × Mem)) (hk36 : ∀ (x2 : Int32) (x3 : Int32) (x4 : Int32) (x5 : Int32) (x6 : Int32) (M : Mem), BL p l e (rmL 7) s m args below meth c LY D cy ad 11 (QI LY D cy ad) 36 [(0, .ref (ad 0)), (2, .int x2), (3, .int x3), (4, .int x4), (5, .int x5), (6, .int x6)] [] M (k36 x2 x3 x4 x5 x6 M)) (hk58 : ∀ (x2 : Int32) (x3 : Int32) (x4 : Int32) (x5 : Int32) (x6 : Int32) (x7 : Int32) (x8 : Int32) (M : Mem), BL p l e (rmL 7) s m args below meth c LY D cy ad 11 (QI LY D cy ad) 58 [(0, .ref (ad 0)), (2, .int x2), (3, .int x3), (4, .int x4), (5, .int x5), (6, .int x6), (7, .int x7), (8, .int x8)] [] M (k58 x2 x3 x4 x5 x6 x7 x8 M)) (hk78 : ∀ (x2 : Int32) (x3 : Int32) (x4 : Int32) (x5 : Int32) (x6 : Int32) (x7 : Int32) (x8 : Int32) (x9 : Int32) (x10 : Int32) (M : Mem), BL p l e (rmL 7) s m args below meth c LY D cy ad 11 (QI LY D cy ad) 78 [(0, .ref (ad 0)), (2, .int x2), (3, .int x3), (4, .int x4), (5, .int x5), (6, .int x6), (7, .int x7), (8, .int x8), (9, .int x9), (10, .int x10)] [] M (k78 x2 x3 x4 x5 x6 x7 x8 x9 x10 M)) (x2 : Int32) (x3 : Int32) (x4 : Int32) (x5 : Int32) (x6 : Int32) (x7 : Int32) (x8 : Int32) (x9 : Int32) (x10 : Int32) (M : Mem) : BL p l e (rmL 7) s m args below meth c LY D cy ad 11 (QI LY D cy ad) 78 [(0, .ref (ad 0)), (2, .int x2), (3, .int x3), (4, .int x4), (5, .int x5), (6, .int x6), (7, .int x7), (8, .int x8), (9, .int x9), (10, .int x10)] [] M (bX12_tells_78 n0 k36 k58 k78 x2 x3 x4 x5 x6 x7 x8 x9 x10 M) := by
  unfold bX12_tells_78
  refine b_iload hO dX12_tells_78 9 rfl ?_
  refine b_aload_n hO dX12_tells_80 0 rfl rfl ?_
  refine b_get hO flX12_54 kLY_0 (v := .ref (ad 2)) rfl dX12_tells_81 ?_
  refine b_aload_n hO dX12_tells_84 0 rfl rfl ?_
  refine b_get hO flX12_51 kLY_0 (v := .int (gI _ 13)) rfl dX12_tells_85 ?_
  refine b_iald hO kLY_2 (n := 2) rfl dX12_tells_88 ?_
  refine b_icmp_gt hO dX12_tells_89 (tgt := 155) (by decide) ?_ ?_
  · refine b_iload hO dX12_tells_155 8 rfl ?_
    refine b_iload hO dX12_tells_157 6 rfl ?_
    refine b_icmp_le hO dX12_tells_159 (tgt := 167) (by decide) ?_ ?_
    · refine b_iload hO dX12_tells_167 6 rfl ?_
      refine b_sub [0, 1, 2, 3, 4, 5, 7] rfl ?_
      exact tfX12_tells_169 n0 hO k36 k58 hk36 hk58 _ _ _ _ _ _ _ _
    · refine b_iload hO dX12_tells_162 8 rfl ?_
      refine b_goto hO dX12_tells_164 (tgt := 169) (by decide) ?_
      refine b_sub [0, 1, 2, 3, 4, 5, 7] rfl ?_
      exact tfX12_tells_169 n0 hO k36 k58 hk36 hk58 _ _ _ _ _ _ _ _
  · refine b_iload hO dX12_tells_92 8 rfl ?_
    refine b_iload_n hO dX12_tells_94 2 rfl rfl ?_
    refine b_iload hO dX12_tells_95 7 rfl ?_
    refine b_callSI hO mdX12_has2 w1576 w1575 (As := [.int _, .int _]) (st := [.int _]) (ctX12_has2 n0 hO.2.2.2.2.2.2.1 _ _ _) (Nat.le_of_ble_eq_true rfl) rfl rfl (Nat.le_of_ble_eq_true rfl) dX12_tells_97 (fun z97 => ?_)
    refine b_if_eq hO dX12_tells_100 (tgt := 145) (by decide) ?_ ?_
    · refine b_sub [0, 1, 2, 3, 4, 5, 6, 7, 9] rfl ?_
      exact tfX12_tells_145 n0 hO k36 k58 k78 hk36 hk58 hk78 _ _ _ _ _ _ _ _ _ _
    · refine b_iload_n hO dX12_tells_103 2 rfl rfl ?_
      refine b_iload hO dX12_tells_104 9 rfl ?_
      refine b_callSI hO mdX12_has2 w1576 w1575 (As := [.int _, .int _]) (st := [.int _]) (ctX12_has2 n0 hO.2.2.2.2.2.2.1 _ _ _) (Nat.le_of_ble_eq_true rfl) rfl rfl (Nat.le_of_ble_eq_true rfl) dX12_tells_106 (fun z106 => ?_)
      refine b_if_eq hO dX12_tells_109 (tgt := 145) (by decide) ?_ ?_
      · refine b_sub [0, 1, 2, 3, 4, 5, 6, 7, 9] rfl ?_
        exact tfX12_tells_145 n0 hO k36 k58 k78 hk36 hk58 hk78 _ _ _ _ _ _ _ _ _ _
      · refine b_aload_n hO dX12_tells_112 0 rfl rfl ?_
        refine b_get hO flX12_210 kLY_0 (v := .ref (ad 42)) rfl dX12_tells_113 ?_
        refine b_bipush hO dX12_tells_116 ic_b_41 ?_
        refine b_iload hO dX12_tells_118 7 rfl ?_
        refine b_imul hO dX12_tells_120 ?_
        refine b_iload hO dX12_tells_121 5 rfl ?_
        refine b_iadd hO dX12_tells_123 ?_
        refine b_iald hO kLY_42 (n := 287) rfl dX12_tells_124 ?_
        refine b_aload_n hO dX12_tells_125 0 rfl rfl ?_
        refine b_get hO flX12_210 kLY_0 (v := .ref (ad 42)) rfl dX12_tells_126 ?_
        refine b_bipush hO dX12_tells_129 ic_b_41 ?_
        refine b_iload hO dX12_tells_131 9 rfl ?_
        refine b_imul hO dX12_tells_133 ?_
        refine b_iload hO dX12_tells_134 5 rfl ?_
        refine b_iadd hO dX12_tells_136 ?_
        refine b_iald hO kLY_42 (n := 287) rfl dX12_tells_137 ?_
        refine b_icmp_ne hO dX12_tells_138 (tgt := 145) (by decide) ?_ ?_
        · refine b_sub [0, 1, 2, 3, 4, 5, 6, 7, 9] rfl ?_
          exact tfX12_tells_145 n0 hO k36 k58 k78 hk36 hk58 hk78 _ _ _ _ _ _ _ _ _ _
        · refine b_iconst hO dX12_tells_141 ic_i_1 ?_
          refine b_goto hO dX12_tells_142 (tgt := 146) (by decide) ?_
          refine b_sub [0, 1, 2, 3, 4, 5, 6, 7, 9] rfl ?_
          exact tfX12_tells_146 n0 hO k36 k58 k78 hk36 hk58 hk78 _ _ _ _ _ _ _ _ _ _ _
theorem lX12_tells_78 (n0 : Nat) (hO : OKc p (rmL 7) s m args meth c LY D cy ad cX12_tells RX12 11 7 (some .int)) (k36 : Int32 → Int32 → Int32 → Int32 → Int32 → Mem → Option (Int32 × Mem)) (k58 : Int32 → Int32 → Int32 → Int32 → Int32 → Int32 → Int32 → Mem → Option (Int32 × Mem)) (hk36 : ∀ (x2 : Int32) (x3 : Int32) (x4 : Int32) (x5 : Int32) (x6 : Int32) (M : Mem), BL p l e (rmL 7) s m args below meth c LY D cy ad 11 (QI LY D cy ad) 36 [(0, .ref (ad 0)), (2, .int x2), (3, .int x3), (4, .int x4), (5, .int x5), (6, .int x6)] [] M (k36 x2 x3 x4 x5 x6 M)) (hk58 : ∀ (x2 : Int32) (x3 : Int32) (x4 : Int32) (x5 : Int32) (x6 : Int32) (x7 : Int32) (x8 : Int32) (M : Mem), BL p l e (rmL 7) s m args below meth c LY D cy ad 11 (QI LY D cy ad) 58 [(0, .ref (ad 0)), (2, .int x2), (3, .int x3), (4, .int x4), (5, .int x5), (6, .int x6), (7, .int x7), (8, .int x8)] [] M (k58 x2 x3 x4 x5 x6 x7 x8 M)) : ∀ (w : Nat) (x2 : Int32) (x3 : Int32) (x4 : Int32) (x5 : Int32) (x6 : Int32) (x7 : Int32) (x8 : Int32) (x9 : Int32) (x10 : Int32) (M : Mem), BL p l e (rmL 7) s m args below meth c LY D cy ad 11 (QI LY D cy ad) 78 [(0, .ref (ad 0)), (2, .int x2), (3, .int x3), (4, .int x4), (5, .int x5), (6, .int x6), (7, .int x7), (8, .int x8), (9, .int x9), (10, .int x10)] [] M (loopN (bX12_tells_78 n0 k36 k58) (fun _ _ _ _ _ _ _ _ _ _ => none) w x2 x3 x4 x5 x6 x7 x8 x9 x10 M) := by
  intro w
  induction w with
  | zero =>
    intros
    exact b_none
  | succ w ih =>
    intro x2 x3 x4 x5 x6 x7 x8 x9 x10 M
    exact tbX12_tells_78 n0 hO k36 k58 _ hk36 hk58 ih x2 x3 x4 x5 x6 x7 x8 x9 x10 M
theorem tfX12_tells_78 (n0 : Nat) (hO : OKc p (rmL 7) s m args meth c LY D cy ad cX12_tells RX12 11 7 (some .int)) (k36 : Int32 → Int32 → Int32 → Int32 → Int32 → Mem → Option (Int32 × Mem)) (k58 : Int32 → Int32 → Int32 → Int32 → Int32 → Int32 → Int32 → Mem → Option (Int32 × Mem)) (hk36 : ∀ (x2 : Int32) (x3 : Int32) (x4 : Int32) (x5 : Int32) (x6 : Int32) (M : Mem), BL p l e (rmL 7) s m args below meth c LY D cy ad 11 (QI LY D cy ad) 36 [(0, .ref (ad 0)), (2, .int x2), (3, .int x3), (4, .int x4), (5, .int x5), (6, .int x6)] [] M (k36 x2 x3 x4 x5 x6 M)) (hk58 : ∀ (x2 : Int32) (x3 : Int32) (x4 : Int32) (x5 : Int32) (x6 : Int32) (x7 : Int32) (x8 : Int32) (M : Mem), BL p l e (rmL 7) s m args below meth c LY D cy ad 11 (QI LY D cy ad) 58 [(0, .ref (ad 0)), (2, .int x2), (3, .int x3), (4, .int x4), (5, .int x5), (6, .int x6), (7, .int x7), (8, .int x8)] [] M (k58 x2 x3 x4 x5 x6 x7 x8 M)) (x2 : Int32) (x3 : Int32) (x4 : Int32) (x5 : Int32) (x6 : Int32) (x7 : Int32) (x8 : Int32) (x9 : Int32) (x10 : Int32) (M : Mem) : BL p l e (rmL 7) s m args below meth c LY D cy ad 11 (QI LY D cy ad) 78 [(0, .ref (ad 0)), (2, .int x2), (3, .int x3), (4, .int x4), (5, .int x5), (6, .int x6), (7, .int x7), (8, .int x8), (9, .int x9), (10, .int x10)] [] M (fX12_tells_78 n0 k36 k58 x2 x3 x4 x5 x6 x7 x8 x9 x10 M) := lX12_tells_78 n0 hO k36 k58 hk36 hk58 n0 x2 x3 x4 x5 x6 x7 x8 x9 x10 M
theorem tfX12_tells_195 (n0 : Nat) (hO : OKc p (rmL 7) s m args meth c LY D cy ad cX12_tells RX12 11 7 (some .int)) (k36 : Int32 → Int32 → Int32 → Int32 → Int32 → Mem → Option (Int32 × Mem)) (hk36 : ∀ (x2 : Int32) (x3 : Int32) (x4 : Int32) (x5 : Int32) (x6 : Int32) (M : Mem), BL p l e (rmL 7) s m args below meth c LY D cy ad 11 (QI LY D cy ad) 36 [(0, .ref (ad 0)), (2, .int x2), (3, .int x3), (4, .int x4), (5, .int x5), (6, .int x6)] [] M (k36 x2 x3 x4 x5 x6 M)) (x2 : Int32) (x3 : Int32) (x4 : Int32) (x5 : Int32) (x6 : Int32) (M : Mem) : BL p l e (rmL 7) s m args below meth c LY D cy ad 11 (QI LY D cy ad) 195 [(0, .ref (ad 0)), (2, .int x2), (3, .int x3), (4, .int x4), (5, .int x5), (6, .int x6)] [] M (fX12_tells_195 n0 k36 x2 x3 x4 x5 x6 M) := by
  unfold fX12_tells_195
  refine b_iinc hO dX12_tells_195 5 rfl ic_i_1 (by decide) (lv' := [(6, .int _), (0, .ref _), (2, .int _), (3, .int _), (4, .int _), (5, .int _)]) rfl ?_
  refine b_goto hO dX12_tells_198 (tgt := 36) (by decide) ?_
  refine b_sub [1, 2, 3, 4, 5, 0] rfl ?_
  exact hk36 _ _ _ _ _ _
theorem tbX12_tells_58 (n0 : Nat) (hO : OKc p (rmL 7) s m args meth c LY D cy ad cX12_tells RX12 11 7 (some .int)) (k36 : Int32 → Int32 → Int32 → Int32 → Int32 → Mem → Option (Int32 × Mem)) (k58 : Int32 → Int32 → Int32 → Int32 → Int32 → Int32 → Int32 → Mem → Option (Int32 × Mem)) (hk36 : ∀ (x2 : Int32) (x3 : Int32) (x4 : Int32) (x5 : Int32) (x6 : Int32) (M : Mem), BL p l e (rmL 7) s m args below meth c LY D cy ad 11 (QI LY D cy ad) 36 [(0, .ref (ad 0)), (2, .int x2), (3, .int x3), (4, .int x4), (5, .int x5), (6, .int x6)] [] M (k36 x2 x3 x4 x5 x6 M)) (hk58 : ∀ (x2 : Int32) (x3 : Int32) (x4 : Int32) (x5 : Int32) (x6 : Int32) (x7 : Int32) (x8 : Int32) (M : Mem), BL p l e (rmL 7) s m args below meth c LY D cy ad 11 (QI LY D cy ad) 58 [(0, .ref (ad 0)), (2, .int x2), (3, .int x3), (4, .int x4), (5, .int x5), (6, .int x6), (7, .int x7), (8, .int x8)] [] M (k58 x2 x3 x4 x5 x6 x7 x8 M)) (x2 : Int32) (x3 : Int32) (x4 : Int32) (x5 : Int32) (x6 : Int32) (x7 : Int32) (x8 : Int32) (M : Mem) : BL p l e (rmL 7) s m args below meth c LY D cy ad 11 (QI LY D cy ad) 58 [(0, .ref (ad 0)), (2, .int x2), (3, .int x3), (4, .int x4), (5, .int x5), (6, .int x6), (7, .int x7), (8, .int x8)] [] M (bX12_tells_58 n0 k36 k58 x2 x3 x4 x5 x6 x7 x8 M) := by
  unfold bX12_tells_58
  refine b_iload hO dX12_tells_58 7 rfl ?_
  refine b_aload_n hO dX12_tells_60 0 rfl rfl ?_
  refine b_get hO flX12_54 kLY_0 (v := .ref (ad 2)) rfl dX12_tells_61 ?_
  refine b_aload_n hO dX12_tells_64 0 rfl rfl ?_
  refine b_get hO flX12_51 kLY_0 (v := .int (gI _ 13)) rfl dX12_tells_65 ?_
  refine b_iald hO kLY_2 (n := 2) rfl dX12_tells_68 ?_
  refine b_icmp_gt hO dX12_tells_69 (tgt := 177) (by decide) ?_ ?_
  · refine b_iload hO dX12_tells_177 6 rfl ?_
    refine b_iload hO dX12_tells_179 4 rfl ?_
    refine b_icmp_lt hO dX12_tells_181 (tgt := 187) (by decide) ?_ ?_
    · refine b_iload hO dX12_tells_187 6 rfl ?_
      refine b_istore hO dX12_tells_189 (by decide) (lv' := [(5, .int _), (0, .ref _), (2, .int _), (3, .int _), (4, .int _), (6, .int _), (7, .int _), (8, .int _)]) rfl ?_
      refine b_iload hO dX12_tells_191 5 rfl ?_
      refine b_istore hO dX12_tells_193 (by decide) (lv' := [(4, .int _), (5, .int _), (0, .ref _), (2, .int _), (3, .int _), (6, .int _), (7, .int _), (8, .int _)]) rfl ?_
      refine b_sub [2, 3, 4, 0, 1, 5] rfl ?_
      exact tfX12_tells_195 n0 hO k36 hk36 _ _ _ _ _ _
    · refine b_goto hO dX12_tells_184 (tgt := 195) (by decide) ?_
      refine b_sub [0, 1, 2, 3, 4, 5] rfl ?_
      exact tfX12_tells_195 n0 hO k36 hk36 _ _ _ _ _ _
  · refine b_iconst hO dX12_tells_72 ic_i_0 ?_
    refine b_istore hO dX12_tells_73 (by decide) (lv' := [(9, .int _), (0, .ref _), (2, .int _), (3, .int _), (4, .int _), (5, .int _), (6, .int _), (7, .int _), (8, .int _)]) rfl ?_
    refine b_iconst hO dX12_tells_75 ic_i_0 ?_
    refine b_istore hO dX12_tells_76 (by decide) (lv' := [(10, .int _), (9, .int _), (0, .ref _), (2, .int _), (3, .int _), (4, .int _), (5, .int _), (6, .int _), (7, .int _), (8, .int _)]) rfl ?_
    refine b_sub [2, 3, 4, 5, 6, 7, 8, 9, 1, 0] rfl ?_
    exact tfX12_tells_78 n0 hO k36 k58 hk36 hk58 _ _ _ _ _ _ _ _ _ _
theorem lX12_tells_58 (n0 : Nat) (hO : OKc p (rmL 7) s m args meth c LY D cy ad cX12_tells RX12 11 7 (some .int)) (k36 : Int32 → Int32 → Int32 → Int32 → Int32 → Mem → Option (Int32 × Mem)) (hk36 : ∀ (x2 : Int32) (x3 : Int32) (x4 : Int32) (x5 : Int32) (x6 : Int32) (M : Mem), BL p l e (rmL 7) s m args below meth c LY D cy ad 11 (QI LY D cy ad) 36 [(0, .ref (ad 0)), (2, .int x2), (3, .int x3), (4, .int x4), (5, .int x5), (6, .int x6)] [] M (k36 x2 x3 x4 x5 x6 M)) : ∀ (w : Nat) (x2 : Int32) (x3 : Int32) (x4 : Int32) (x5 : Int32) (x6 : Int32) (x7 : Int32) (x8 : Int32) (M : Mem), BL p l e (rmL 7) s m args below meth c LY D cy ad 11 (QI LY D cy ad) 58 [(0, .ref (ad 0)), (2, .int x2), (3, .int x3), (4, .int x4), (5, .int x5), (6, .int x6), (7, .int x7), (8, .int x8)] [] M (loopN (bX12_tells_58 n0 k36) (fun _ _ _ _ _ _ _ _ => none) w x2 x3 x4 x5 x6 x7 x8 M) := by
  intro w
  induction w with
  | zero =>
    intros
    exact b_none
  | succ w ih =>
    intro x2 x3 x4 x5 x6 x7 x8 M
    exact tbX12_tells_58 n0 hO k36 _ hk36 ih x2 x3 x4 x5 x6 x7 x8 M
theorem tfX12_tells_58 (n0 : Nat) (hO : OKc p (rmL 7) s m args meth c LY D cy ad cX12_tells RX12 11 7 (some .int)) (k36 : Int32 → Int32 → Int32 → Int32 → Int32 → Mem → Option (Int32 × Mem)) (hk36 : ∀ (x2 : Int32) (x3 : Int32) (x4 : Int32) (x5 : Int32) (x6 : Int32) (M : Mem), BL p l e (rmL 7) s m args below meth c LY D cy ad 11 (QI LY D cy ad) 36 [(0, .ref (ad 0)), (2, .int x2), (3, .int x3), (4, .int x4), (5, .int x5), (6, .int x6)] [] M (k36 x2 x3 x4 x5 x6 M)) (x2 : Int32) (x3 : Int32) (x4 : Int32) (x5 : Int32) (x6 : Int32) (x7 : Int32) (x8 : Int32) (M : Mem) : BL p l e (rmL 7) s m args below meth c LY D cy ad 11 (QI LY D cy ad) 58 [(0, .ref (ad 0)), (2, .int x2), (3, .int x3), (4, .int x4), (5, .int x5), (6, .int x6), (7, .int x7), (8, .int x8)] [] M (fX12_tells_58 n0 k36 x2 x3 x4 x5 x6 x7 x8 M) := lX12_tells_58 n0 hO k36 hk36 n0 x2 x3 x4 x5 x6 x7 x8 M
theorem tfX12_tells_201 (n0 : Nat) (hO : OKc p (rmL 7) s m args meth c LY D cy ad cX12_tells RX12 11 7 (some .int)) (x2 : Int32) (x4 : Int32) (x5 : Int32) (M : Mem) : BL p l e (rmL 7) s m args below meth c LY D cy ad 11 (QI LY D cy ad) 201 [(2, .int x2), (4, .int x4), (5, .int x5)] [] M (fX12_tells_201 n0 x2 x4 x5 M) := by
  unfold fX12_tells_201
  refine b_iload hO dX12_tells_201 1 rfl ?_
  refine b_iconst hO dX12_tells_203 ic_i_m1 ?_
  refine b_icmp_eq hO dX12_tells_204 (tgt := 211) (by decide) ?_ ?_
  · refine b_iload hO dX12_tells_211 1 rfl ?_
    refine b_goto hO dX12_tells_213 (tgt := 218) (by decide) ?_
    exact b_iret hO dX12_tells_218
  · refine b_iload_n hO dX12_tells_207 0 rfl rfl ?_
    refine b_if_ne hO dX12_tells_208 (tgt := 216) (by decide) ?_ ?_
    · refine b_iload hO dX12_tells_216 2 rfl ?_
      exact b_iret hO dX12_tells_218
    · refine b_iload hO dX12_tells_211 1 rfl ?_
      refine b_goto hO dX12_tells_213 (tgt := 218) (by decide) ?_
      exact b_iret hO dX12_tells_218
theorem tbX12_tells_36 (n0 : Nat) (hO : OKc p (rmL 7) s m args meth c LY D cy ad cX12_tells RX12 11 7 (some .int)) (k36 : Int32 → Int32 → Int32 → Int32 → Int32 → Mem → Option (Int32 × Mem)) (hk36 : ∀ (x2 : Int32) (x3 : Int32) (x4 : Int32) (x5 : Int32) (x6 : Int32) (M : Mem), BL p l e (rmL 7) s m args below meth c LY D cy ad 11 (QI LY D cy ad) 36 [(0, .ref (ad 0)), (2, .int x2), (3, .int x3), (4, .int x4), (5, .int x5), (6, .int x6)] [] M (k36 x2 x3 x4 x5 x6 M)) (x2 : Int32) (x3 : Int32) (x4 : Int32) (x5 : Int32) (x6 : Int32) (M : Mem) : BL p l e (rmL 7) s m args below meth c LY D cy ad 11 (QI LY D cy ad) 36 [(0, .ref (ad 0)), (2, .int x2), (3, .int x3), (4, .int x4), (5, .int x5), (6, .int x6)] [] M (bX12_tells_36 n0 k36 x2 x3 x4 x5 x6 M) := by
  unfold bX12_tells_36
  refine b_aload_n hO dX12_tells_36 0 rfl rfl ?_
  refine b_iload hO dX12_tells_37 5 rfl ?_
  refine b_iconst hO dX12_tells_39 ic_i_0 ?_
  refine b_bipush hO dX12_tells_40 ic_b_40 ?_
  refine b_callVI hO mdX12_isAhead mvX12_isAhead w1749 (ci := 12) rfl rfl (by decide) kLY_0 (As := [.int _, .int _, .int _]) (st := []) (ctX12_isAhead n0 hO.2.2.2.2.2.2.1 _ _ _ _) (Nat.le_of_ble_eq_true rfl) rfl rfl (Nat.le_of_ble_eq_true rfl) dX12_tells_42 (fun z42 => ?_)
  refine b_if_eq hO dX12_tells_45 (tgt := 201) (by decide) ?_ ?_
  · refine b_sub [1, 3, 4] rfl ?_
    exact tfX12_tells_201 n0 hO _ _ _ _
  · refine b_iload_n hO dX12_tells_48 2 rfl rfl ?_
    refine b_if_eq hO dX12_tells_49 (tgt := 201) (by decide) ?_ ?_
    · refine b_sub [1, 3, 4] rfl ?_
      exact tfX12_tells_201 n0 hO _ _ _ _
    · refine b_iconst hO dX12_tells_52 ic_i_0 ?_
      refine b_istore hO dX12_tells_53 (by decide) (lv' := [(7, .int _), (0, .ref _), (2, .int _), (3, .int _), (4, .int _), (5, .int _), (6, .int _)]) rfl ?_
      refine b_iconst hO dX12_tells_55 ic_i_0 ?_
      refine b_istore hO dX12_tells_56 (by decide) (lv' := [(8, .int _), (7, .int _), (0, .ref _), (2, .int _), (3, .int _), (4, .int _), (5, .int _), (6, .int _)]) rfl ?_
      refine b_sub [2, 3, 4, 5, 6, 7, 1, 0] rfl ?_
      exact tfX12_tells_58 n0 hO k36 hk36 _ _ _ _ _ _ _ _
theorem lX12_tells_36 (n0 : Nat) (hO : OKc p (rmL 7) s m args meth c LY D cy ad cX12_tells RX12 11 7 (some .int)) : ∀ (w : Nat) (x2 : Int32) (x3 : Int32) (x4 : Int32) (x5 : Int32) (x6 : Int32) (M : Mem), BL p l e (rmL 7) s m args below meth c LY D cy ad 11 (QI LY D cy ad) 36 [(0, .ref (ad 0)), (2, .int x2), (3, .int x3), (4, .int x4), (5, .int x5), (6, .int x6)] [] M (loopN (bX12_tells_36 n0) (fun _ _ _ _ _ _ => none) w x2 x3 x4 x5 x6 M) := by
  intro w
  induction w with
  | zero =>
    intros
    exact b_none
  | succ w ih =>
    intro x2 x3 x4 x5 x6 M
    exact tbX12_tells_36 n0 hO _ ih x2 x3 x4 x5 x6 M
theorem tfX12_tells_36 (n0 : Nat) (hO : OKc p (rmL 7) s m args meth c LY D cy ad cX12_tells RX12 11 7 (some .int)) (x2 : Int32) (x3 : Int32) (x4 : Int32) (x5 : Int32) (x6 : Int32) (M : Mem) : BL p l e (rmL 7) s m args below meth c LY D cy ad 11 (QI LY D cy ad) 36 [(0, .ref (ad 0)), (2, .int x2), (3, .int x3), (4, .int x4), (5, .int x5), (6, .int x6)] [] M (fX12_tells_36 n0 x2 x3 x4 x5 x6 M) := lX12_tells_36 n0 hO n0 x2 x3 x4 x5 x6 M
theorem tfX12_tells (n0 : Nat) (hO : OKc p (rmL 7) s m args meth c LY D cy ad cX12_tells RX12 11 7 (some .int)) (x1 : Int32) (x2 : Int32) (M : Mem) : BL p l e (rmL 7) s m args below meth c LY D cy ad 11 (QI LY D cy ad) 0 [(0, .ref (ad 0)), (1, .int x1), (2, .int x2)] [] M (fX12_tells n0 x1 x2 M) := by
  unfold fX12_tells
  refine b_aload_n hO dX12_tells_0 0 rfl rfl ?_
  refine b_iload_n hO dX12_tells_1 1 rfl rfl ?_
  refine b_callVI hO mdX12_isCorner mvX12_isCorner w1733 (ci := 12) rfl rfl (by decide) kLY_0 (As := [.int _]) (st := []) (ctX12_isCorner n0 hO.2.2.2.2.2.2.1 _ _) (Nat.le_of_ble_eq_true rfl) rfl rfl (Nat.le_of_ble_eq_true rfl) dX12_tells_2 (fun z2 => ?_)
  refine b_if_eq hO dX12_tells_5 (tgt := 17) (by decide) ?_ ?_
  · refine b_iconst hO dX12_tells_17 ic_i_m1 ?_
    exact b_iret hO dX12_tells_18
  · refine b_iload_n hO dX12_tells_8 2 rfl rfl ?_
    refine b_iconst hO dX12_tells_9 ic_i_0 ?_
    refine b_iconst hO dX12_tells_10 ic_i_1 ?_
    refine b_callSI hO mdX12_is w1561 w1560 (As := [.int _, .int _, .int _]) (st := []) (ctX12_is n0 hO.2.2.2.2.2.2.1 _ _ _ _) (Nat.le_of_ble_eq_true rfl) rfl rfl (Nat.le_of_ble_eq_true rfl) dX12_tells_11 (fun z11 => ?_)
    refine b_if_ne hO dX12_tells_14 (tgt := 19) (by decide) ?_ ?_
    · refine b_aload_n hO dX12_tells_19 0 rfl rfl ?_
      refine b_iload_n hO dX12_tells_20 1 rfl rfl ?_
      refine b_callVI hO mdX12_heldBits mvX12_heldBits w1816 (ci := 12) rfl rfl (by decide) kLY_0 (As := [.int _]) (st := []) (ctX12_heldBits n0 hO.2.2.2.2.2.2.1 _ _) (Nat.le_of_ble_eq_true rfl) rfl rfl (Nat.le_of_ble_eq_true rfl) dX12_tells_21 (fun z21 => ?_)
      refine b_istore_n hO dX12_tells_24 rfl (by decide) (lv' := [(3, .int _), (0, .ref _), (1, .int _), (2, .int _)]) rfl ?_
      refine b_iconst hO dX12_tells_25 ic_i_m1 ?_
      refine b_istore hO dX12_tells_26 (by decide) (lv' := [(4, .int _), (3, .int _), (0, .ref _), (1, .int _), (2, .int _)]) rfl ?_
      refine b_ldcw hO w1648 dX12_tells_28 ?_
      refine b_istore hO dX12_tells_31 (by decide) (lv' := [(5, .int _), (4, .int _), (3, .int _), (0, .ref _), (1, .int _), (2, .int _)]) rfl ?_
      refine b_iconst hO dX12_tells_33 ic_i_0 ?_
      refine b_istore hO dX12_tells_34 (by decide) (lv' := [(6, .int _), (5, .int _), (4, .int _), (3, .int _), (0, .ref _), (1, .int _), (2, .int _)]) rfl ?_
      refine b_sub [4, 6, 3, 2, 1, 0] rfl ?_
      exact tfX12_tells_36 n0 hO _ _ _ _ _ _
    · refine b_iconst hO dX12_tells_17 ic_i_m1 ?_
      exact b_iret hO dX12_tells_18
theorem ctX12_tells (n0 : Nat) (hI : Inj LY ad) (x1 : Int32) (x2 : Int32) (M : Mem) : CT l LY D cy ad yX12_tells cX12_tells 11 (some .int) 7 (QI LY D cy ad) [.ref (ad 0), .int x1, .int x2] M (fX12_tells n0 x1 x2 M) :=
  CT.mk LYok hI (by decide) (Nat.le_of_ble_eq_true rfl) (fun hO => tfX12_tells n0 hO x1 x2 M)
/-! X12_minutes -/
def bX12_minutes_25 (n0 : Nat) (k25 : Int32 → Int32 → Int32 → Mem → Option (Int32 × Mem)) (x1 : Int32) (x2 : Int32) (x3 : Int32) (M : Mem) : Option (Int32 × Mem) :=
  if x1 ≤ x3 then
    some (x2, M)
  else
    (fX12_passes n0 (0 : Int32) M).bind fun z33 =>
    bnd (x2 + z33.1) fun x2_37 =>
    k25 x1 x2_37 (x3 + (1 : Int32)) z33.2
def fX12_minutes_25 (n0 : Nat) : Int32 → Int32 → Int32 → Mem → Option (Int32 × Mem) := loopN (bX12_minutes_25 n0) (fun _ _ _ _ => none) n0
def fX12_minutes (n0 : Nat) (x1 : Int32) (M : Mem) : Option (Int32 × Mem) :=
  (fX12_isAhead n0 x1 (1 : Int32) (100 : Int32) M).bind fun z5 =>
  if z5.1 = 0 then
    (fX12_refuses n0 (2 : Int32) z5.2).bind fun z13 =>
    some (z13.1, z13.2)
  else
    (fX12_keeps n0 z5.2).bind fun z18 =>
    fX12_minutes_25 n0 x1 (0 : Int32) (0 : Int32) z18
theorem tbX12_minutes_25 (n0 : Nat) (hO : OKc p (rmL 7) s m args meth c LY D cy ad cX12_minutes RX12 4 7 (some .int)) (k25 : Int32 → Int32 → Int32 → Mem → Option (Int32 × Mem)) (hk25 : ∀ (x1 : Int32) (x2 : Int32) (x3 : Int32) (M : Mem), BL p l e (rmL 7) s m args below meth c LY D cy ad 4 (QI LY D cy ad) 25 [(0, .ref (ad 0)), (1, .int x1), (2, .int x2), (3, .int x3)] [] M (k25 x1 x2 x3 M)) (x1 : Int32) (x2 : Int32) (x3 : Int32) (M : Mem) : BL p l e (rmL 7) s m args below meth c LY D cy ad 4 (QI LY D cy ad) 25 [(0, .ref (ad 0)), (1, .int x1), (2, .int x2), (3, .int x3)] [] M (bX12_minutes_25 n0 k25 x1 x2 x3 M) := by
  unfold bX12_minutes_25
  refine b_iload_n hO dX12_minutes_25 3 rfl rfl ?_
  refine b_iload_n hO dX12_minutes_26 1 rfl rfl ?_
  refine b_icmp_ge hO dX12_minutes_27 (tgt := 44) (by decide) ?_ ?_
  · refine b_iload_n hO dX12_minutes_44 2 rfl rfl ?_
    exact b_iret hO dX12_minutes_45
  · refine b_iload_n hO dX12_minutes_30 2 rfl rfl ?_
    refine b_aload_n hO dX12_minutes_31 0 rfl rfl ?_
    refine b_iconst hO dX12_minutes_32 ic_i_0 ?_
    refine b_callVI hO mdX12_passes mvX12_passes w1753 (ci := 12) rfl rfl (by decide) kLY_0 (As := [.int _]) (st := [.int _]) (ctX12_passes n0 hO.2.2.2.2.2.2.1 _ _) (Nat.le_of_ble_eq_true rfl) rfl rfl (Nat.le_of_ble_eq_true rfl) dX12_minutes_33 (fun z33 => ?_)
    refine b_iadd hO dX12_minutes_36 ?_
    refine b_topI (fun x2_37 => ?_)
    refine b_istore_n hO dX12_minutes_37 rfl (by decide) (lv' := [(2, .int _), (0, .ref _), (1, .int _), (3, .int _)]) rfl ?_
    refine b_iinc hO dX12_minutes_38 3 rfl ic_i_1 (by decide) (lv' := [(3, .int _), (2, .int _), (0, .ref _), (1, .int _)]) rfl ?_
    refine b_goto hO dX12_minutes_41 (tgt := 25) (by decide) ?_
    refine b_sub [2, 3, 1, 0] rfl ?_
    exact hk25 _ _ _ _
theorem lX12_minutes_25 (n0 : Nat) (hO : OKc p (rmL 7) s m args meth c LY D cy ad cX12_minutes RX12 4 7 (some .int)) : ∀ (w : Nat) (x1 : Int32) (x2 : Int32) (x3 : Int32) (M : Mem), BL p l e (rmL 7) s m args below meth c LY D cy ad 4 (QI LY D cy ad) 25 [(0, .ref (ad 0)), (1, .int x1), (2, .int x2), (3, .int x3)] [] M (loopN (bX12_minutes_25 n0) (fun _ _ _ _ => none) w x1 x2 x3 M) := by
  intro w
  induction w with
  | zero =>
    intros
    exact b_none
  | succ w ih =>
    intro x1 x2 x3 M
    exact tbX12_minutes_25 n0 hO _ ih x1 x2 x3 M
theorem tfX12_minutes_25 (n0 : Nat) (hO : OKc p (rmL 7) s m args meth c LY D cy ad cX12_minutes RX12 4 7 (some .int)) (x1 : Int32) (x2 : Int32) (x3 : Int32) (M : Mem) : BL p l e (rmL 7) s m args below meth c LY D cy ad 4 (QI LY D cy ad) 25 [(0, .ref (ad 0)), (1, .int x1), (2, .int x2), (3, .int x3)] [] M (fX12_minutes_25 n0 x1 x2 x3 M) := lX12_minutes_25 n0 hO n0 x1 x2 x3 M
theorem tfX12_minutes (n0 : Nat) (hO : OKc p (rmL 7) s m args meth c LY D cy ad cX12_minutes RX12 4 7 (some .int)) (x1 : Int32) (M : Mem) : BL p l e (rmL 7) s m args below meth c LY D cy ad 4 (QI LY D cy ad) 0 [(0, .ref (ad 0)), (1, .int x1)] [] M (fX12_minutes n0 x1 M) := by
  unfold fX12_minutes
  refine b_aload_n hO dX12_minutes_0 0 rfl rfl ?_
  refine b_iload_n hO dX12_minutes_1 1 rfl rfl ?_
  refine b_iconst hO dX12_minutes_2 ic_i_1 ?_
  refine b_bipush hO dX12_minutes_3 ic_b_100 ?_
  refine b_callVI hO mdX12_isAhead mvX12_isAhead w1749 (ci := 12) rfl rfl (by decide) kLY_0 (As := [.int _, .int _, .int _]) (st := []) (ctX12_isAhead n0 hO.2.2.2.2.2.2.1 _ _ _ _) (Nat.le_of_ble_eq_true rfl) rfl rfl (Nat.le_of_ble_eq_true rfl) dX12_minutes_5 (fun z5 => ?_)
  refine b_if_ne hO dX12_minutes_8 (tgt := 17) (by decide) ?_ ?_
  · refine b_aload_n hO dX12_minutes_17 0 rfl rfl ?_
    refine b_callVV hO mdX12_keeps mvX12_keeps w1828 (ci := 12) rfl rfl (by decide) kLY_0 (As := []) (st := []) (ctX12_keeps n0 hO.2.2.2.2.2.2.1 _) (Nat.le_of_ble_eq_true rfl) rfl rfl (Nat.le_of_ble_eq_true rfl) dX12_minutes_18 (fun z18 => ?_)
    refine b_iconst hO dX12_minutes_21 ic_i_0 ?_
    refine b_istore_n hO dX12_minutes_22 rfl (by decide) (lv' := [(2, .int _), (0, .ref _), (1, .int _)]) rfl ?_
    refine b_iconst hO dX12_minutes_23 ic_i_0 ?_
    refine b_istore_n hO dX12_minutes_24 rfl (by decide) (lv' := [(3, .int _), (2, .int _), (0, .ref _), (1, .int _)]) rfl ?_
    refine b_sub [2, 3, 1, 0] rfl ?_
    exact tfX12_minutes_25 n0 hO _ _ _ _
  · refine b_aload_n hO dX12_minutes_11 0 rfl rfl ?_
    refine b_iconst hO dX12_minutes_12 ic_i_2 ?_
    refine b_callVI hO mdX12_refuses mvX12_refuses w1453 (ci := 12) rfl rfl (by decide) kLY_0 (As := [.int _]) (st := []) (ctX12_refuses n0 hO.2.2.2.2.2.2.1 _ _) (Nat.le_of_ble_eq_true rfl) rfl rfl (Nat.le_of_ble_eq_true rfl) dX12_minutes_13 (fun z13 => ?_)
    exact b_iret hO dX12_minutes_16
theorem ctX12_minutes (n0 : Nat) (hI : Inj LY ad) (x1 : Int32) (M : Mem) : CT l LY D cy ad yX12_minutes cX12_minutes 4 (some .int) 7 (QI LY D cy ad) [.ref (ad 0), .int x1] M (fX12_minutes n0 x1 M) :=
  CT.mk LYok hI (by decide) (Nat.le_of_ble_eq_true rfl) (fun hO => tfX12_minutes n0 hO x1 M)
/-! X12_draw -/
def fX12_draw (n0 : Nat) (x1 : Int32) (M : Mem) : Option (Int32 × Mem) :=
  if (2147483648 : Int64) = 0 then none else
  bnd (sL M 55 (rem64 (((1103515245 : Int64) * (gL M 55)) + (12345 : Int64)) (2147483648 : Int64))) fun M17 =>
  if (64 : Int64) = 0 then none else
  if (x1).toInt64 = 0 then none else
  some (((rem64 ((gL M17 55) / (64 : Int64)) (x1).toInt64)).toInt32, M17)
theorem tfX12_draw (n0 : Nat) (hO : OKc p (rmL 1) s m args meth c LY D cy ad cX12_draw RX12 2 1 (some .int)) (x1 : Int32) (M : Mem) : BL p l e (rmL 1) s m args below meth c LY D cy ad 2 (QI LY D cy ad) 0 [(0, .ref (ad 0)), (1, .int x1)] [] M (fX12_draw n0 x1 M) := by
  unfold fX12_draw
  refine b_aload_n hO dX12_draw_0 0 rfl rfl ?_
  refine b_ldc2 hO w1840 dX12_draw_1 ?_
  refine b_aload_n hO dX12_draw_4 0 rfl rfl ?_
  refine b_get hO flX12_180 kLY_0 (v := .long (gL _ 55)) rfl dX12_draw_5 ?_
  refine b_lmul hO dX12_draw_8 ?_
  refine b_ldc2 hO w1841 dX12_draw_9 ?_
  refine b_ladd hO dX12_draw_12 ?_
  refine b_ldc2 hO w1842 dX12_draw_13 ?_
  refine b_lrem hO dX12_draw_16 ?_
  refine b_putL hO flX12_180 kLY_0 rfl rfl rfl (id := 55) rfl dX12_draw_17 ?_
  refine b_bnd (fun M17 => ?_)
  refine b_aload_n hO dX12_draw_20 0 rfl rfl ?_
  refine b_get hO flX12_180 kLY_0 (v := .long (gL _ 55)) rfl dX12_draw_21 ?_
  refine b_ldc2 hO w1843 dX12_draw_24 ?_
  refine b_ldiv hO dX12_draw_27 ?_
  refine b_iload_n hO dX12_draw_28 1 rfl rfl ?_
  refine b_i2l hO dX12_draw_29 ?_
  refine b_lrem hO dX12_draw_30 ?_
  refine b_l2i hO dX12_draw_31 ?_
  exact b_iret hO dX12_draw_32
theorem ctX12_draw (n0 : Nat) (hI : Inj LY ad) (x1 : Int32) (M : Mem) : CT l LY D cy ad yX12_draw cX12_draw 2 (some .int) 1 (QI LY D cy ad) [.ref (ad 0), .int x1] M (fX12_draw n0 x1 M) :=
  CT.mk LYok hI (by decide) (Nat.le_of_ble_eq_true rfl) (fun hO => tfX12_draw n0 hO x1 M)
/-! X12_chance -/
def fX12_chance_115 (n0 : Nat) (k25 : Int32 → Int32 → Int32 → Mem → Option (Int32 × Mem)) (x1 : Int32) (x2 : Int32) (x3 : Int32) (M : Mem) : Option (Int32 × Mem) :=
  (fX12_finishesDoings n0 (0 : Int32) M).bind fun z117 =>
  k25 x1 x2 (x3 + (1 : Int32)) z117.2
def bX12_chance_25 (n0 : Nat) (k25 : Int32 → Int32 → Int32 → Mem → Option (Int32 × Mem)) (x1 : Int32) (x2 : Int32) (x3 : Int32) (M : Mem) : Option (Int32 × Mem) :=
  if x1 ≤ x3 then
    some (x2, M)
  else
    (fX12_ticks n0 (0 : Int32) M).bind fun z32 =>
    (fX12_draw n0 (100 : Int32) z32).bind fun z38 =>
    if oob (gI z38.2 13) 2 then none else
    if (gA z38.2 13 (Int32.toNatClampNeg (gI z38.2 13))) ≤ z38.1 then
      fX12_chance_115 n0 k25 x1 x2 x3 z38.2
    else
      if oob (gI z38.2 13) 2 then none else
      if (gA z38.2 5 (Int32.toNatClampNeg (gI z38.2 13))) ≤ 0 then
        fX12_chance_115 n0 k25 x1 x2 x3 z38.2
      else
        if oob (gI z38.2 13) 2 then none else
        if (gA z38.2 2 (Int32.toNatClampNeg (gI z38.2 13))) ≤ 0 then
          fX12_chance_115 n0 k25 x1 x2 x3 z38.2
        else
          if oob (gI z38.2 13) 2 then none else
          (fX12_draw n0 (gA z38.2 5 (Int32.toNatClampNeg (gI z38.2 13))) z38.2).bind fun z87 =>
          if oob (gI z87.2 13) 2 then none else
          (fX12_draw n0 (gA z87.2 2 (Int32.toNatClampNeg (gI z87.2 13))) z87.2).bind fun z106 =>
          (fX12_puts n0 (0 : Int32) z87.1 z106.1 z106.2).bind fun z109 =>
          fX12_chance_115 n0 k25 x1 (x2 + (1 : Int32)) x3 z109
def fX12_chance_25 (n0 : Nat) : Int32 → Int32 → Int32 → Mem → Option (Int32 × Mem) := loopN (bX12_chance_25 n0) (fun _ _ _ _ => none) n0
def fX12_chance (n0 : Nat) (x1 : Int32) (M : Mem) : Option (Int32 × Mem) :=
  (fX12_isAhead n0 x1 (1 : Int32) (100 : Int32) M).bind fun z5 =>
  if z5.1 = 0 then
    (fX12_refuses n0 (2 : Int32) z5.2).bind fun z13 =>
    some (z13.1, z13.2)
  else
    (fX12_keeps n0 z5.2).bind fun z18 =>
    fX12_chance_25 n0 x1 (0 : Int32) (0 : Int32) z18
theorem tfX12_chance_115 (n0 : Nat) (hO : OKc p (rmL 6) s m args meth c LY D cy ad cX12_chance RX12 5 6 (some .int)) (k25 : Int32 → Int32 → Int32 → Mem → Option (Int32 × Mem)) (hk25 : ∀ (x1 : Int32) (x2 : Int32) (x3 : Int32) (M : Mem), BL p l e (rmL 6) s m args below meth c LY D cy ad 5 (QI LY D cy ad) 25 [(0, .ref (ad 0)), (1, .int x1), (2, .int x2), (3, .int x3)] [] M (k25 x1 x2 x3 M)) (x1 : Int32) (x2 : Int32) (x3 : Int32) (M : Mem) : BL p l e (rmL 6) s m args below meth c LY D cy ad 5 (QI LY D cy ad) 115 [(0, .ref (ad 0)), (1, .int x1), (2, .int x2), (3, .int x3)] [] M (fX12_chance_115 n0 k25 x1 x2 x3 M) := by
  unfold fX12_chance_115
  refine b_aload_n hO dX12_chance_115 0 rfl rfl ?_
  refine b_iconst hO dX12_chance_116 ic_i_0 ?_
  refine b_callVI hO mdX12_finishesDoings mvX12_finishesDoings w1653 (ci := 12) rfl rfl (by decide) kLY_0 (As := [.int _]) (st := []) (ctX12_finishesDoings n0 hO.2.2.2.2.2.2.1 _ _) (Nat.le_of_ble_eq_true rfl) rfl rfl (Nat.le_of_ble_eq_true rfl) dX12_chance_117 (fun z117 => ?_)
  refine b_pop hO dX12_chance_120 rfl ?_
  refine b_iinc hO dX12_chance_121 3 rfl ic_i_1 (by decide) (lv' := [(3, .int _), (0, .ref _), (1, .int _), (2, .int _)]) rfl ?_
  refine b_goto hO dX12_chance_124 (tgt := 25) (by decide) ?_
  refine b_sub [1, 2, 3, 0] rfl ?_
  exact hk25 _ _ _ _
theorem tbX12_chance_25 (n0 : Nat) (hO : OKc p (rmL 6) s m args meth c LY D cy ad cX12_chance RX12 5 6 (some .int)) (k25 : Int32 → Int32 → Int32 → Mem → Option (Int32 × Mem)) (hk25 : ∀ (x1 : Int32) (x2 : Int32) (x3 : Int32) (M : Mem), BL p l e (rmL 6) s m args below meth c LY D cy ad 5 (QI LY D cy ad) 25 [(0, .ref (ad 0)), (1, .int x1), (2, .int x2), (3, .int x3)] [] M (k25 x1 x2 x3 M)) (x1 : Int32) (x2 : Int32) (x3 : Int32) (M : Mem) : BL p l e (rmL 6) s m args below meth c LY D cy ad 5 (QI LY D cy ad) 25 [(0, .ref (ad 0)), (1, .int x1), (2, .int x2), (3, .int x3)] [] M (bX12_chance_25 n0 k25 x1 x2 x3 M) := by
  unfold bX12_chance_25
  refine b_iload_n hO dX12_chance_25 3 rfl rfl ?_
  refine b_iload_n hO dX12_chance_26 1 rfl rfl ?_
  refine b_icmp_ge hO dX12_chance_27 (tgt := 127) (by decide) ?_ ?_
  · refine b_iload_n hO dX12_chance_127 2 rfl rfl ?_
    exact b_iret hO dX12_chance_128
  · refine b_aload_n hO dX12_chance_30 0 rfl rfl ?_
    refine b_iconst hO dX12_chance_31 ic_i_0 ?_
    refine b_callVV hO mdX12_ticks mvX12_ticks w1757 (ci := 12) rfl rfl (by decide) kLY_0 (As := [.int _]) (st := []) (ctX12_ticks n0 hO.2.2.2.2.2.2.1 _ _) (Nat.le_of_ble_eq_true rfl) rfl rfl (Nat.le_of_ble_eq_true rfl) dX12_chance_32 (fun z32 => ?_)
    refine b_aload_n hO dX12_chance_35 0 rfl rfl ?_
    refine b_bipush hO dX12_chance_36 ic_b_100 ?_
    refine b_callVI hO mdX12_draw mvX12_draw w1836 (ci := 12) rfl rfl (by decide) kLY_0 (As := [.int _]) (st := []) (ctX12_draw n0 hO.2.2.2.2.2.2.1 _ _) (Nat.le_of_ble_eq_true rfl) rfl rfl (Nat.le_of_ble_eq_true rfl) dX12_chance_38 (fun z38 => ?_)
    refine b_aload_n hO dX12_chance_41 0 rfl rfl ?_
    refine b_get hO flX12_87 kLY_0 (v := .ref (ad 13)) rfl dX12_chance_42 ?_
    refine b_aload_n hO dX12_chance_45 0 rfl rfl ?_
    refine b_get hO flX12_51 kLY_0 (v := .int (gI _ 13)) rfl dX12_chance_46 ?_
    refine b_iald hO kLY_13 (n := 2) rfl dX12_chance_49 ?_
    refine b_icmp_ge hO dX12_chance_50 (tgt := 115) (by decide) ?_ ?_
    · exact tfX12_chance_115 n0 hO k25 hk25 _ _ _ _
    · refine b_aload_n hO dX12_chance_53 0 rfl rfl ?_
      refine b_get hO flX12_63 kLY_0 (v := .ref (ad 5)) rfl dX12_chance_54 ?_
      refine b_aload_n hO dX12_chance_57 0 rfl rfl ?_
      refine b_get hO flX12_51 kLY_0 (v := .int (gI _ 13)) rfl dX12_chance_58 ?_
      refine b_iald hO kLY_5 (n := 2) rfl dX12_chance_61 ?_
      refine b_if_le hO dX12_chance_62 (tgt := 115) (by decide) ?_ ?_
      · exact tfX12_chance_115 n0 hO k25 hk25 _ _ _ _
      · refine b_aload_n hO dX12_chance_65 0 rfl rfl ?_
        refine b_get hO flX12_54 kLY_0 (v := .ref (ad 2)) rfl dX12_chance_66 ?_
        refine b_aload_n hO dX12_chance_69 0 rfl rfl ?_
        refine b_get hO flX12_51 kLY_0 (v := .int (gI _ 13)) rfl dX12_chance_70 ?_
        refine b_iald hO kLY_2 (n := 2) rfl dX12_chance_73 ?_
        refine b_if_le hO dX12_chance_74 (tgt := 115) (by decide) ?_ ?_
        · exact tfX12_chance_115 n0 hO k25 hk25 _ _ _ _
        · refine b_aload_n hO dX12_chance_77 0 rfl rfl ?_
          refine b_aload_n hO dX12_chance_78 0 rfl rfl ?_
          refine b_get hO flX12_63 kLY_0 (v := .ref (ad 5)) rfl dX12_chance_79 ?_
          refine b_aload_n hO dX12_chance_82 0 rfl rfl ?_
          refine b_get hO flX12_51 kLY_0 (v := .int (gI _ 13)) rfl dX12_chance_83 ?_
          refine b_iald hO kLY_5 (n := 2) rfl dX12_chance_86 ?_
          refine b_callVI hO mdX12_draw mvX12_draw w1836 (ci := 12) rfl rfl (by decide) kLY_0 (As := [.int _]) (st := []) (ctX12_draw n0 hO.2.2.2.2.2.2.1 _ _) (Nat.le_of_ble_eq_true rfl) rfl rfl (Nat.le_of_ble_eq_true rfl) dX12_chance_87 (fun z87 => ?_)
          refine b_istore hO dX12_chance_90 (by decide) (lv' := [(4, .int _), (0, .ref _), (1, .int _), (2, .int _), (3, .int _)]) rfl ?_
          refine b_aload_n hO dX12_chance_92 1 rfl rfl ?_
          refine b_iconst hO dX12_chance_93 ic_i_0 ?_
          refine b_iload hO dX12_chance_94 0 rfl ?_
          refine b_aload_n hO dX12_chance_96 1 rfl rfl ?_
          refine b_aload_n hO dX12_chance_97 1 rfl rfl ?_
          refine b_get hO flX12_54 kLY_0 (v := .ref (ad 2)) rfl dX12_chance_98 ?_
          refine b_aload_n hO dX12_chance_101 1 rfl rfl ?_
          refine b_get hO flX12_51 kLY_0 (v := .int (gI _ 13)) rfl dX12_chance_102 ?_
          refine b_iald hO kLY_2 (n := 2) rfl dX12_chance_105 ?_
          refine b_callVI hO mdX12_draw mvX12_draw w1836 (ci := 12) rfl rfl (by decide) kLY_0 (As := [.int _]) (st := [.int _, .int _, .ref _]) (ctX12_draw n0 hO.2.2.2.2.2.2.1 _ _) (Nat.le_of_ble_eq_true rfl) rfl rfl (Nat.le_of_ble_eq_true rfl) dX12_chance_106 (fun z106 => ?_)
          refine b_callVV hO mdX12_puts mvX12_puts w1765 (ci := 12) rfl rfl (by decide) kLY_0 (As := [.int _, .int _, .int _]) (st := []) (ctX12_puts n0 hO.2.2.2.2.2.2.1 _ _ _ _) (Nat.le_of_ble_eq_true rfl) rfl rfl (Nat.le_of_ble_eq_true rfl) dX12_chance_109 (fun z109 => ?_)
          refine b_iinc hO dX12_chance_112 3 rfl ic_i_1 (by decide) (lv' := [(2, .int _), (4, .int _), (0, .ref _), (1, .int _), (3, .int _)]) rfl ?_
          refine b_sub [2, 3, 0, 4] rfl ?_
          exact tfX12_chance_115 n0 hO k25 hk25 _ _ _ _
theorem lX12_chance_25 (n0 : Nat) (hO : OKc p (rmL 6) s m args meth c LY D cy ad cX12_chance RX12 5 6 (some .int)) : ∀ (w : Nat) (x1 : Int32) (x2 : Int32) (x3 : Int32) (M : Mem), BL p l e (rmL 6) s m args below meth c LY D cy ad 5 (QI LY D cy ad) 25 [(0, .ref (ad 0)), (1, .int x1), (2, .int x2), (3, .int x3)] [] M (loopN (bX12_chance_25 n0) (fun _ _ _ _ => none) w x1 x2 x3 M) := by
  intro w
  induction w with
  | zero =>
    intros
    exact b_none
  | succ w ih =>
    intro x1 x2 x3 M
    exact tbX12_chance_25 n0 hO _ ih x1 x2 x3 M
theorem tfX12_chance_25 (n0 : Nat) (hO : OKc p (rmL 6) s m args meth c LY D cy ad cX12_chance RX12 5 6 (some .int)) (x1 : Int32) (x2 : Int32) (x3 : Int32) (M : Mem) : BL p l e (rmL 6) s m args below meth c LY D cy ad 5 (QI LY D cy ad) 25 [(0, .ref (ad 0)), (1, .int x1), (2, .int x2), (3, .int x3)] [] M (fX12_chance_25 n0 x1 x2 x3 M) := lX12_chance_25 n0 hO n0 x1 x2 x3 M
theorem tfX12_chance (n0 : Nat) (hO : OKc p (rmL 6) s m args meth c LY D cy ad cX12_chance RX12 5 6 (some .int)) (x1 : Int32) (M : Mem) : BL p l e (rmL 6) s m args below meth c LY D cy ad 5 (QI LY D cy ad) 0 [(0, .ref (ad 0)), (1, .int x1)] [] M (fX12_chance n0 x1 M) := by
  unfold fX12_chance
  refine b_aload_n hO dX12_chance_0 0 rfl rfl ?_
  refine b_iload_n hO dX12_chance_1 1 rfl rfl ?_
  refine b_iconst hO dX12_chance_2 ic_i_1 ?_
  refine b_bipush hO dX12_chance_3 ic_b_100 ?_
  refine b_callVI hO mdX12_isAhead mvX12_isAhead w1749 (ci := 12) rfl rfl (by decide) kLY_0 (As := [.int _, .int _, .int _]) (st := []) (ctX12_isAhead n0 hO.2.2.2.2.2.2.1 _ _ _ _) (Nat.le_of_ble_eq_true rfl) rfl rfl (Nat.le_of_ble_eq_true rfl) dX12_chance_5 (fun z5 => ?_)
  refine b_if_ne hO dX12_chance_8 (tgt := 17) (by decide) ?_ ?_
  · refine b_aload_n hO dX12_chance_17 0 rfl rfl ?_
    refine b_callVV hO mdX12_keeps mvX12_keeps w1828 (ci := 12) rfl rfl (by decide) kLY_0 (As := []) (st := []) (ctX12_keeps n0 hO.2.2.2.2.2.2.1 _) (Nat.le_of_ble_eq_true rfl) rfl rfl (Nat.le_of_ble_eq_true rfl) dX12_chance_18 (fun z18 => ?_)
    refine b_iconst hO dX12_chance_21 ic_i_0 ?_
    refine b_istore_n hO dX12_chance_22 rfl (by decide) (lv' := [(2, .int _), (0, .ref _), (1, .int _)]) rfl ?_
    refine b_iconst hO dX12_chance_23 ic_i_0 ?_
    refine b_istore_n hO dX12_chance_24 rfl (by decide) (lv' := [(3, .int _), (2, .int _), (0, .ref _), (1, .int _)]) rfl ?_
    refine b_sub [2, 3, 1, 0] rfl ?_
    exact tfX12_chance_25 n0 hO _ _ _ _
  · refine b_aload_n hO dX12_chance_11 0 rfl rfl ?_
    refine b_iconst hO dX12_chance_12 ic_i_2 ?_
    refine b_callVI hO mdX12_refuses mvX12_refuses w1453 (ci := 12) rfl rfl (by decide) kLY_0 (As := [.int _]) (st := []) (ctX12_refuses n0 hO.2.2.2.2.2.2.1 _ _) (Nat.le_of_ble_eq_true rfl) rfl rfl (Nat.le_of_ble_eq_true rfl) dX12_chance_13 (fun z13 => ?_)
    exact b_iret hO dX12_chance_16
theorem ctX12_chance (n0 : Nat) (hI : Inj LY ad) (x1 : Int32) (M : Mem) : CT l LY D cy ad yX12_chance cX12_chance 5 (some .int) 6 (QI LY D cy ad) [.ref (ad 0), .int x1] M (fX12_chance n0 x1 M) :=
  CT.mk LYok hI (by decide) (Nat.le_of_ble_eq_true rfl) (fun hO => tfX12_chance n0 hO x1 M)
/-! X12_give -/
def fX12_give_16 (n0 : Nat) (M : Mem) : Option (Int32 × Mem) :=
  (fX12_refuses n0 (3 : Int32) M).bind fun z18 =>
  some (z18.1, z18.2)
def fX12_give (n0 : Nat) (x1 : Int32) (x2 : Int32) (M : Mem) : Option (Int32 × Mem) :=
  (fX12_isCorner n0 x1 M).bind fun z2 =>
  if z2.1 = 0 then
    fX12_give_16 n0 z2.2
  else
    (fX12_isThing n0 x2 z2.2).bind fun z10 =>
    if z10.1 = 0 then
      fX12_give_16 n0 z10.2
    else
      (fX12_keeps n0 z10.2).bind fun z23 =>
      (fX12_puts n0 (0 : Int32) x1 x2 z23).bind fun z30 =>
      (fX12_finishesDoings n0 (0 : Int32) z30).bind fun z35 =>
      (fX12_hour n0 (0 : Int32) x1 z35.2).bind fun z42 =>
      some (z42.1, z42.2)
theorem tfX12_give_16 (n0 : Nat) (hO : OKc p (rmL 6) s m args meth c LY D cy ad cX12_give RX12 3 6 (some .int)) (M : Mem) : BL p l e (rmL 6) s m args below meth c LY D cy ad 3 (QI LY D cy ad) 16 [(0, .ref (ad 0))] [] M (fX12_give_16 n0 M) := by
  unfold fX12_give_16
  refine b_aload_n hO dX12_give_16 0 rfl rfl ?_
  refine b_iconst hO dX12_give_17 ic_i_3 ?_
  refine b_callVI hO mdX12_refuses mvX12_refuses w1453 (ci := 12) rfl rfl (by decide) kLY_0 (As := [.int _]) (st := []) (ctX12_refuses n0 hO.2.2.2.2.2.2.1 _ _) (Nat.le_of_ble_eq_true rfl) rfl rfl (Nat.le_of_ble_eq_true rfl) dX12_give_18 (fun z18 => ?_)
  exact b_iret hO dX12_give_21
theorem tfX12_give (n0 : Nat) (hO : OKc p (rmL 6) s m args meth c LY D cy ad cX12_give RX12 3 6 (some .int)) (x1 : Int32) (x2 : Int32) (M : Mem) : BL p l e (rmL 6) s m args below meth c LY D cy ad 3 (QI LY D cy ad) 0 [(0, .ref (ad 0)), (1, .int x1), (2, .int x2)] [] M (fX12_give n0 x1 x2 M) := by
  unfold fX12_give
  refine b_aload_n hO dX12_give_0 0 rfl rfl ?_
  refine b_iload_n hO dX12_give_1 1 rfl rfl ?_
  refine b_callVI hO mdX12_isCorner mvX12_isCorner w1733 (ci := 12) rfl rfl (by decide) kLY_0 (As := [.int _]) (st := []) (ctX12_isCorner n0 hO.2.2.2.2.2.2.1 _ _) (Nat.le_of_ble_eq_true rfl) rfl rfl (Nat.le_of_ble_eq_true rfl) dX12_give_2 (fun z2 => ?_)
  refine b_if_eq hO dX12_give_5 (tgt := 16) (by decide) ?_ ?_
  · refine b_sub [0] rfl ?_
    exact tfX12_give_16 n0 hO _
  · refine b_aload_n hO dX12_give_8 0 rfl rfl ?_
    refine b_iload_n hO dX12_give_9 2 rfl rfl ?_
    refine b_callVI hO mdX12_isThing mvX12_isThing w1725 (ci := 12) rfl rfl (by decide) kLY_0 (As := [.int _]) (st := []) (ctX12_isThing n0 hO.2.2.2.2.2.2.1 _ _) (Nat.le_of_ble_eq_true rfl) rfl rfl (Nat.le_of_ble_eq_true rfl) dX12_give_10 (fun z10 => ?_)
    refine b_if_ne hO dX12_give_13 (tgt := 22) (by decide) ?_ ?_
    · refine b_aload_n hO dX12_give_22 0 rfl rfl ?_
      refine b_callVV hO mdX12_keeps mvX12_keeps w1828 (ci := 12) rfl rfl (by decide) kLY_0 (As := []) (st := []) (ctX12_keeps n0 hO.2.2.2.2.2.2.1 _) (Nat.le_of_ble_eq_true rfl) rfl rfl (Nat.le_of_ble_eq_true rfl) dX12_give_23 (fun z23 => ?_)
      refine b_aload_n hO dX12_give_26 0 rfl rfl ?_
      refine b_iconst hO dX12_give_27 ic_i_0 ?_
      refine b_iload_n hO dX12_give_28 1 rfl rfl ?_
      refine b_iload_n hO dX12_give_29 2 rfl rfl ?_
      refine b_callVV hO mdX12_puts mvX12_puts w1765 (ci := 12) rfl rfl (by decide) kLY_0 (As := [.int _, .int _, .int _]) (st := []) (ctX12_puts n0 hO.2.2.2.2.2.2.1 _ _ _ _) (Nat.le_of_ble_eq_true rfl) rfl rfl (Nat.le_of_ble_eq_true rfl) dX12_give_30 (fun z30 => ?_)
      refine b_aload_n hO dX12_give_33 0 rfl rfl ?_
      refine b_iconst hO dX12_give_34 ic_i_0 ?_
      refine b_callVI hO mdX12_finishesDoings mvX12_finishesDoings w1653 (ci := 12) rfl rfl (by decide) kLY_0 (As := [.int _]) (st := []) (ctX12_finishesDoings n0 hO.2.2.2.2.2.2.1 _ _) (Nat.le_of_ble_eq_true rfl) rfl rfl (Nat.le_of_ble_eq_true rfl) dX12_give_35 (fun z35 => ?_)
      refine b_pop hO dX12_give_38 rfl ?_
      refine b_aload_n hO dX12_give_39 0 rfl rfl ?_
      refine b_iconst hO dX12_give_40 ic_i_0 ?_
      refine b_iload_n hO dX12_give_41 1 rfl rfl ?_
      refine b_callVI hO mdX12_hour mvX12_hour w1657 (ci := 12) rfl rfl (by decide) kLY_0 (As := [.int _, .int _]) (st := []) (ctX12_hour n0 hO.2.2.2.2.2.2.1 _ _ _) (Nat.le_of_ble_eq_true rfl) rfl rfl (Nat.le_of_ble_eq_true rfl) dX12_give_42 (fun z42 => ?_)
      exact b_iret hO dX12_give_45
    · refine b_sub [0] rfl ?_
      exact tfX12_give_16 n0 hO _
theorem ctX12_give (n0 : Nat) (hI : Inj LY ad) (x1 : Int32) (x2 : Int32) (M : Mem) : CT l LY D cy ad yX12_give cX12_give 3 (some .int) 6 (QI LY D cy ad) [.ref (ad 0), .int x1, .int x2] M (fX12_give n0 x1 x2 M) :=
  CT.mk LYok hI (by decide) (Nat.le_of_ble_eq_true rfl) (fun hO => tfX12_give n0 hO x1 x2 M)
/-! X12_take -/
def fX12_take_18 (n0 : Nat) (M : Mem) : Option (Int32 × Mem) :=
  (fX12_refuses n0 (3 : Int32) M).bind fun z20 =>
  some (z20.1, z20.2)
def fX12_take (n0 : Nat) (x1 : Int32) (M : Mem) : Option (Int32 × Mem) :=
  (fX12_isCorner n0 x1 M).bind fun z2 =>
  if z2.1 = 0 then
    fX12_take_18 n0 z2.2
  else
    if oob x1 110 then none else
    if (gA z2.2 29 (Int32.toNatClampNeg x1)) = (-1 : Int32) then
      fX12_take_18 n0 z2.2
    else
      (fX12_keeps n0 z2.2).bind fun z25 =>
      (fX12_puts n0 (0 : Int32) x1 (-1 : Int32) z25).bind fun z32 =>
      (fX12_finishesDoings n0 (0 : Int32) z32).bind fun z37 =>
      (fX12_hour n0 (0 : Int32) x1 z37.2).bind fun z44 =>
      some (z44.1, z44.2)
theorem tfX12_take_18 (n0 : Nat) (hO : OKc p (rmL 6) s m args meth c LY D cy ad cX12_take RX12 2 6 (some .int)) (M : Mem) : BL p l e (rmL 6) s m args below meth c LY D cy ad 2 (QI LY D cy ad) 18 [(0, .ref (ad 0))] [] M (fX12_take_18 n0 M) := by
  unfold fX12_take_18
  refine b_aload_n hO dX12_take_18 0 rfl rfl ?_
  refine b_iconst hO dX12_take_19 ic_i_3 ?_
  refine b_callVI hO mdX12_refuses mvX12_refuses w1453 (ci := 12) rfl rfl (by decide) kLY_0 (As := [.int _]) (st := []) (ctX12_refuses n0 hO.2.2.2.2.2.2.1 _ _) (Nat.le_of_ble_eq_true rfl) rfl rfl (Nat.le_of_ble_eq_true rfl) dX12_take_20 (fun z20 => ?_)
  exact b_iret hO dX12_take_23
theorem tfX12_take (n0 : Nat) (hO : OKc p (rmL 6) s m args meth c LY D cy ad cX12_take RX12 2 6 (some .int)) (x1 : Int32) (M : Mem) : BL p l e (rmL 6) s m args below meth c LY D cy ad 2 (QI LY D cy ad) 0 [(0, .ref (ad 0)), (1, .int x1)] [] M (fX12_take n0 x1 M) := by
  unfold fX12_take
  refine b_aload_n hO dX12_take_0 0 rfl rfl ?_
  refine b_iload_n hO dX12_take_1 1 rfl rfl ?_
  refine b_callVI hO mdX12_isCorner mvX12_isCorner w1733 (ci := 12) rfl rfl (by decide) kLY_0 (As := [.int _]) (st := []) (ctX12_isCorner n0 hO.2.2.2.2.2.2.1 _ _) (Nat.le_of_ble_eq_true rfl) rfl rfl (Nat.le_of_ble_eq_true rfl) dX12_take_2 (fun z2 => ?_)
  refine b_if_eq hO dX12_take_5 (tgt := 18) (by decide) ?_ ?_
  · refine b_sub [0] rfl ?_
    exact tfX12_take_18 n0 hO _
  · refine b_aload_n hO dX12_take_8 0 rfl rfl ?_
    refine b_get hO flX12_159 kLY_0 (v := .ref (ad 29)) rfl dX12_take_9 ?_
    refine b_iload_n hO dX12_take_12 1 rfl rfl ?_
    refine b_iald hO kLY_29 (n := 110) rfl dX12_take_13 ?_
    refine b_iconst hO dX12_take_14 ic_i_m1 ?_
    refine b_icmp_ne hO dX12_take_15 (tgt := 24) (by decide) ?_ ?_
    · refine b_aload_n hO dX12_take_24 0 rfl rfl ?_
      refine b_callVV hO mdX12_keeps mvX12_keeps w1828 (ci := 12) rfl rfl (by decide) kLY_0 (As := []) (st := []) (ctX12_keeps n0 hO.2.2.2.2.2.2.1 _) (Nat.le_of_ble_eq_true rfl) rfl rfl (Nat.le_of_ble_eq_true rfl) dX12_take_25 (fun z25 => ?_)
      refine b_aload_n hO dX12_take_28 0 rfl rfl ?_
      refine b_iconst hO dX12_take_29 ic_i_0 ?_
      refine b_iload_n hO dX12_take_30 1 rfl rfl ?_
      refine b_iconst hO dX12_take_31 ic_i_m1 ?_
      refine b_callVV hO mdX12_puts mvX12_puts w1765 (ci := 12) rfl rfl (by decide) kLY_0 (As := [.int _, .int _, .int _]) (st := []) (ctX12_puts n0 hO.2.2.2.2.2.2.1 _ _ _ _) (Nat.le_of_ble_eq_true rfl) rfl rfl (Nat.le_of_ble_eq_true rfl) dX12_take_32 (fun z32 => ?_)
      refine b_aload_n hO dX12_take_35 0 rfl rfl ?_
      refine b_iconst hO dX12_take_36 ic_i_0 ?_
      refine b_callVI hO mdX12_finishesDoings mvX12_finishesDoings w1653 (ci := 12) rfl rfl (by decide) kLY_0 (As := [.int _]) (st := []) (ctX12_finishesDoings n0 hO.2.2.2.2.2.2.1 _ _) (Nat.le_of_ble_eq_true rfl) rfl rfl (Nat.le_of_ble_eq_true rfl) dX12_take_37 (fun z37 => ?_)
      refine b_pop hO dX12_take_40 rfl ?_
      refine b_aload_n hO dX12_take_41 0 rfl rfl ?_
      refine b_iconst hO dX12_take_42 ic_i_0 ?_
      refine b_iload_n hO dX12_take_43 1 rfl rfl ?_
      refine b_callVI hO mdX12_hour mvX12_hour w1657 (ci := 12) rfl rfl (by decide) kLY_0 (As := [.int _, .int _]) (st := []) (ctX12_hour n0 hO.2.2.2.2.2.2.1 _ _ _) (Nat.le_of_ble_eq_true rfl) rfl rfl (Nat.le_of_ble_eq_true rfl) dX12_take_44 (fun z44 => ?_)
      exact b_iret hO dX12_take_47
    · refine b_sub [0] rfl ?_
      exact tfX12_take_18 n0 hO _
theorem ctX12_take (n0 : Nat) (hI : Inj LY ad) (x1 : Int32) (M : Mem) : CT l LY D cy ad yX12_take cX12_take 2 (some .int) 6 (QI LY D cy ad) [.ref (ad 0), .int x1] M (fX12_take n0 x1 M) :=
  CT.mk LYok hI (by decide) (Nat.le_of_ble_eq_true rfl) (fun hO => tfX12_take n0 hO x1 M)
/-! X12_seed -/
def fX12_seed (n0 : Nat) (x1 : Int32) (M : Mem) : Option (Int32 × Mem) :=
  if 0 ≤ x1 then
    bnd (sL M 55 (x1).toInt64) fun M21 =>
    some ((1 : Int32), M21)
  else
    (fX12_refuses n0 (5 : Int32) M).bind fun z6 =>
    if z6.1 < 0 then
      some ((0 : Int32), z6.2)
    else
      some ((1 : Int32), z6.2)
theorem tfX12_seed (n0 : Nat) (hO : OKc p (rmL 2) s m args meth c LY D cy ad cX12_seed RX12 2 2 (some .boolean)) (x1 : Int32) (M : Mem) : BL p l e (rmL 2) s m args below meth c LY D cy ad 2 (QI LY D cy ad) 0 [(0, .ref (ad 0)), (1, .int x1)] [] M (fX12_seed n0 x1 M) := by
  unfold fX12_seed
  refine b_iload_n hO dX12_seed_0 1 rfl rfl ?_
  refine b_if_ge hO dX12_seed_1 (tgt := 18) (by decide) ?_ ?_
  · refine b_aload_n hO dX12_seed_18 0 rfl rfl ?_
    refine b_iload_n hO dX12_seed_19 1 rfl rfl ?_
    refine b_i2l hO dX12_seed_20 ?_
    refine b_putL hO flX12_180 kLY_0 rfl rfl rfl (id := 55) rfl dX12_seed_21 ?_
    refine b_bnd (fun M21 => ?_)
    refine b_iconst hO dX12_seed_24 ic_i_1 ?_
    exact b_zretc hO (Or.inr rfl) dX12_seed_25
  · refine b_aload_n hO dX12_seed_4 0 rfl rfl ?_
    refine b_iconst hO dX12_seed_5 ic_i_5 ?_
    refine b_callVI hO mdX12_refuses mvX12_refuses w1453 (ci := 12) rfl rfl (by decide) kLY_0 (As := [.int _]) (st := []) (ctX12_refuses n0 hO.2.2.2.2.2.2.1 _ _) (Nat.le_of_ble_eq_true rfl) rfl rfl (Nat.le_of_ble_eq_true rfl) dX12_seed_6 (fun z6 => ?_)
    refine b_if_lt hO dX12_seed_9 (tgt := 16) (by decide) ?_ ?_
    · refine b_iconst hO dX12_seed_16 ic_i_0 ?_
      exact b_zretc hO (Or.inl rfl) dX12_seed_17
    · refine b_iconst hO dX12_seed_12 ic_i_1 ?_
      refine b_goto hO dX12_seed_13 (tgt := 17) (by decide) ?_
      exact b_zretc hO (Or.inr rfl) dX12_seed_17
theorem ctX12_seed (n0 : Nat) (hI : Inj LY ad) (x1 : Int32) (M : Mem) : CT l LY D cy ad yX12_seed cX12_seed 2 (some .boolean) 2 (QI LY D cy ad) [.ref (ad 0), .int x1] M (fX12_seed n0 x1 M) :=
  CT.mk LYok hI (by decide) (Nat.le_of_ble_eq_true rfl) (fun hO => tfX12_seed n0 hO x1 M)
/-! X12_kept -/
def fX12_kept (n0 : Nat) (x1 : Int32) (x2 : Int32) (M : Mem) : Option (Int32 × Mem) :=
  if oob (0 : Int32) 22 then none else
  (fX12_is n0 x1 (0 : Int32) ((gA M 32 (Int32.toNatClampNeg (0 : Int32))) - (1 : Int32)) M).bind fun z10 =>
  if z10.1 = 0 then
    some ((-1 : Int32), z10.2)
  else
    (fX12_is n0 x2 (0 : Int32) (1 : Int32) z10.2).bind fun z19 =>
    if z19.1 = 0 then
      some ((-1 : Int32), z19.2)
    else
      if oob (((2 : Int32) * x1) + x2) 1760 then none else
      some ((gA z19.2 33 (Int32.toNatClampNeg (((2 : Int32) * x1) + x2))), z19.2)
theorem tfX12_kept (n0 : Nat) (hO : OKc p (rmL 2) s m args meth c LY D cy ad cX12_kept RX12 3 2 (some .int)) (x1 : Int32) (x2 : Int32) (M : Mem) : BL p l e (rmL 2) s m args below meth c LY D cy ad 3 (QI LY D cy ad) 0 [(0, .ref (ad 0)), (1, .int x1), (2, .int x2)] [] M (fX12_kept n0 x1 x2 M) := by
  unfold fX12_kept
  refine b_iload_n hO dX12_kept_0 1 rfl rfl ?_
  refine b_iconst hO dX12_kept_1 ic_i_0 ?_
  refine b_aload_n hO dX12_kept_2 0 rfl rfl ?_
  refine b_get hO flX12_168 kLY_0 (v := .ref (ad 32)) rfl dX12_kept_3 ?_
  refine b_iconst hO dX12_kept_6 ic_i_0 ?_
  refine b_iald hO kLY_32 (n := 22) rfl dX12_kept_7 ?_
  refine b_iconst hO dX12_kept_8 ic_i_1 ?_
  refine b_isub hO dX12_kept_9 ?_
  refine b_callSI hO mdX12_is w1561 w1560 (As := [.int _, .int _, .int _]) (st := []) (ctX12_is n0 hO.2.2.2.2.2.2.1 _ _ _ _) (Nat.le_of_ble_eq_true rfl) rfl rfl (Nat.le_of_ble_eq_true rfl) dX12_kept_10 (fun z10 => ?_)
  refine b_if_eq hO dX12_kept_13 (tgt := 38) (by decide) ?_ ?_
  · refine b_iconst hO dX12_kept_38 ic_i_m1 ?_
    exact b_iret hO dX12_kept_39
  · refine b_iload_n hO dX12_kept_16 2 rfl rfl ?_
    refine b_iconst hO dX12_kept_17 ic_i_0 ?_
    refine b_iconst hO dX12_kept_18 ic_i_1 ?_
    refine b_callSI hO mdX12_is w1561 w1560 (As := [.int _, .int _, .int _]) (st := []) (ctX12_is n0 hO.2.2.2.2.2.2.1 _ _ _ _) (Nat.le_of_ble_eq_true rfl) rfl rfl (Nat.le_of_ble_eq_true rfl) dX12_kept_19 (fun z19 => ?_)
    refine b_if_eq hO dX12_kept_22 (tgt := 38) (by decide) ?_ ?_
    · refine b_iconst hO dX12_kept_38 ic_i_m1 ?_
      exact b_iret hO dX12_kept_39
    · refine b_aload_n hO dX12_kept_25 0 rfl rfl ?_
      refine b_get hO flX12_171 kLY_0 (v := .ref (ad 33)) rfl dX12_kept_26 ?_
      refine b_iconst hO dX12_kept_29 ic_i_2 ?_
      refine b_iload_n hO dX12_kept_30 1 rfl rfl ?_
      refine b_imul hO dX12_kept_31 ?_
      refine b_iload_n hO dX12_kept_32 2 rfl rfl ?_
      refine b_iadd hO dX12_kept_33 ?_
      refine b_iald hO kLY_33 (n := 1760) rfl dX12_kept_34 ?_
      refine b_goto hO dX12_kept_35 (tgt := 39) (by decide) ?_
      exact b_iret hO dX12_kept_39
theorem ctX12_kept (n0 : Nat) (hI : Inj LY ad) (x1 : Int32) (x2 : Int32) (M : Mem) : CT l LY D cy ad yX12_kept cX12_kept 3 (some .int) 2 (QI LY D cy ad) [.ref (ad 0), .int x1, .int x2] M (fX12_kept n0 x1 x2 M) :=
  CT.mk LYok hI (by decide) (Nat.le_of_ble_eq_true rfl) (fun hO => tfX12_kept n0 hO x1 x2 M)
/-! X12_writes -/
def fX12_writes (n0 : Nat) (x1 : Int32) (M : Mem) : Option (Mem) :=
  if oob (gI M 67) 40 then none else
  bnd (sA M 43 (Int32.toNatClampNeg (gI M 67)) (x1 &&& (255 : Int32))) fun M13 =>
  some (sI M13 67 ((gI M13 67) + (1 : Int32)))
theorem tfX12_writes (n0 : Nat) (hO : OKc p (rmL 1) s m args meth c LY D cy ad cX12_writes RX12 2 1 none) (x1 : Int32) (M : Mem) : BL p l e (rmL 1) s m args below meth c LY D cy ad 2 (QV LY D cy ad) 0 [(0, .ref (ad 0)), (1, .int x1)] [] M (fX12_writes n0 x1 M) := by
  unfold fX12_writes
  refine b_aload_n hO dX12_writes_0 0 rfl rfl ?_
  refine b_get hO flX12_213 kLY_0 (v := .ref (ad 43)) rfl dX12_writes_1 ?_
  refine b_aload_n hO dX12_writes_4 0 rfl rfl ?_
  refine b_get hO flX12_216 kLY_0 (v := .int (gI _ 67)) rfl dX12_writes_5 ?_
  refine b_iload_n hO dX12_writes_8 1 rfl rfl ?_
  refine b_sipush hO dX12_writes_9 ic_s_255 ?_
  refine b_iand hO dX12_writes_12 ?_
  refine b_iast hO kLY_43 (n := 40) rfl dX12_writes_13 ?_
  refine b_bnd (fun M13 => ?_)
  refine b_aload_n hO dX12_writes_14 0 rfl rfl ?_
  refine b_dup hO dX12_writes_15 rfl ?_
  refine b_get hO flX12_216 kLY_0 (v := .int (gI _ 67)) rfl dX12_writes_16 ?_
  refine b_iconst hO dX12_writes_19 ic_i_1 ?_
  refine b_iadd hO dX12_writes_20 ?_
  refine b_putI hO flX12_216 kLY_0 rfl rfl rfl (id := 67) rfl dX12_writes_21 ?_
  exact b_vret hO dX12_writes_24
theorem ctX12_writes (n0 : Nat) (hI : Inj LY ad) (x1 : Int32) (M : Mem) : CT l LY D cy ad yX12_writes cX12_writes 2 none 1 (QV LY D cy ad) [.ref (ad 0), .int x1] M (fX12_writes n0 x1 M) :=
  CT.mk LYok hI (by decide) (Nat.le_of_ble_eq_true rfl) (fun hO => tfX12_writes n0 hO x1 M)
/-! X12_image -/
def fX12_image_116 (n0 : Nat) (k84 : Int32 → Mem → Option (Int32 × Mem)) (x1 : Int32) (u1 : Int32) (M : Mem) : Option (Int32 × Mem) :=
  (fX12_writes n0 u1 M).bind fun z116 =>
  k84 (x1 + (1 : Int32)) z116
def bX12_image_131 (n0 : Nat) (k131 : Int32 → Int32 → Mem → Option (Int32 × Mem)) (x1 : Int32) (x2 : Int32) (M : Mem) : Option (Int32 × Mem) :=
  if (gI M 67) ≤ x2 then
    (fX12_writes n0 x1 M).bind fun z162 =>
    some ((gI z162 67), z162)
  else
    if oob x2 40 then none else
    if (251 : Int32) = 0 then none else
    bnd (rem32 (((5 : Int32) * x1) + (gA M 43 (Int32.toNatClampNeg x2))) (251 : Int32)) fun x1_153 =>
    k131 x1_153 (x2 + (1 : Int32)) M
def fX12_image_131 (n0 : Nat) : Int32 → Int32 → Mem → Option (Int32 × Mem) := loopN (bX12_image_131 n0) (fun _ _ _ => none) n0
def bX12_image_84 (n0 : Nat) (k84 : Int32 → Mem → Option (Int32 × Mem)) (x1 : Int32) (M : Mem) : Option (Int32 × Mem) :=
  if oob (gI M 13) 2 then none else
  if (gA M 10 (Int32.toNatClampNeg (gI M 13))) ≤ x1 then
    fX12_image_131 n0 (227 : Int32) (0 : Int32) M
  else
    if oob (0 : Int32) 22 then none else
    (fX12_has2 n0 (gA M 31 (Int32.toNatClampNeg (0 : Int32))) x1 M).bind fun z105 =>
    if z105.1 = 0 then
      fX12_image_116 n0 k84 x1 (0 : Int32) z105.2
    else
      fX12_image_116 n0 k84 x1 (1 : Int32) z105.2
def fX12_image_84 (n0 : Nat) : Int32 → Mem → Option (Int32 × Mem) := loopN (bX12_image_84 n0) (fun _ _ => none) n0
def bX12_image_30 (n0 : Nat) (k30 : Int32 → Mem → Option (Int32 × Mem)) (x1 : Int32) (M : Mem) : Option (Int32 × Mem) :=
  if oob (gI M 13) 2 then none else
  if (gA M 5 (Int32.toNatClampNeg (gI M 13))) ≤ x1 then
    fX12_image_84 n0 (0 : Int32) M
  else
    if oob x1 110 then none else
    (fX12_writes n0 (gA M 29 (Int32.toNatClampNeg x1)) M).bind fun z50 =>
    if oob x1 110 then none else
    (fX12_writes n0 ((gA z50 30 (Int32.toNatClampNeg x1)) >>> ((8 : Int32) &&& 31)) z50).bind fun z63 =>
    if oob x1 110 then none else
    (fX12_writes n0 (gA z63 30 (Int32.toNatClampNeg x1)) z63).bind fun z73 =>
    k30 (x1 + (1 : Int32)) z73
def fX12_image_30 (n0 : Nat) : Int32 → Mem → Option (Int32 × Mem) := loopN (bX12_image_30 n0) (fun _ _ => none) n0
def fX12_image (n0 : Nat) (M : Mem) : Option (Int32 × Mem) :=
  bnd (sI M 67 (0 : Int32)) fun M2 =>
  if oob (0 : Int32) 22 then none else
  (fX12_writes n0 ((gA M2 28 (Int32.toNatClampNeg (0 : Int32))) >>> ((8 : Int32) &&& 31)) M2).bind fun z15 =>
  if oob (0 : Int32) 22 then none else
  (fX12_writes n0 (gA z15 28 (Int32.toNatClampNeg (0 : Int32))) z15).bind fun z25 =>
  fX12_image_30 n0 (0 : Int32) z25
theorem tfX12_image_116 (n0 : Nat) (hO : OKc p (rmL 2) s m args meth c LY D cy ad cX12_image RX12 3 2 (some .int)) (k84 : Int32 → Mem → Option (Int32 × Mem)) (hk84 : ∀ (x1 : Int32) (M : Mem), BL p l e (rmL 2) s m args below meth c LY D cy ad 3 (QI LY D cy ad) 84 [(0, .ref (ad 0)), (1, .int x1)] [] M (k84 x1 M)) (x1 : Int32) (u1 : Int32) (M : Mem) : BL p l e (rmL 2) s m args below meth c LY D cy ad 3 (QI LY D cy ad) 116 [(0, .ref (ad 0)), (1, .int x1)] [.int u1, .ref (ad 0)] M (fX12_image_116 n0 k84 x1 u1 M) := by
  unfold fX12_image_116
  refine b_callVV hO mdX12_writes mvX12_writes w1864 (ci := 12) rfl rfl (by decide) kLY_0 (As := [.int _]) (st := []) (ctX12_writes n0 hO.2.2.2.2.2.2.1 _ _) (Nat.le_of_ble_eq_true rfl) rfl rfl (Nat.le_of_ble_eq_true rfl) dX12_image_116 (fun z116 => ?_)
  refine b_iinc hO dX12_image_119 1 rfl ic_i_1 (by decide) (lv' := [(1, .int _), (0, .ref _)]) rfl ?_
  refine b_goto hO dX12_image_122 (tgt := 84) (by decide) ?_
  refine b_sub [1, 0] rfl ?_
  exact hk84 _ _
theorem tbX12_image_131 (n0 : Nat) (hO : OKc p (rmL 2) s m args meth c LY D cy ad cX12_image RX12 3 2 (some .int)) (k131 : Int32 → Int32 → Mem → Option (Int32 × Mem)) (hk131 : ∀ (x1 : Int32) (x2 : Int32) (M : Mem), BL p l e (rmL 2) s m args below meth c LY D cy ad 3 (QI LY D cy ad) 131 [(0, .ref (ad 0)), (1, .int x1), (2, .int x2)] [] M (k131 x1 x2 M)) (x1 : Int32) (x2 : Int32) (M : Mem) : BL p l e (rmL 2) s m args below meth c LY D cy ad 3 (QI LY D cy ad) 131 [(0, .ref (ad 0)), (1, .int x1), (2, .int x2)] [] M (bX12_image_131 n0 k131 x1 x2 M) := by
  unfold bX12_image_131
  refine b_iload_n hO dX12_image_131 2 rfl rfl ?_
  refine b_aload_n hO dX12_image_132 0 rfl rfl ?_
  refine b_get hO flX12_216 kLY_0 (v := .int (gI _ 67)) rfl dX12_image_133 ?_
  refine b_icmp_ge hO dX12_image_136 (tgt := 160) (by decide) ?_ ?_
  · refine b_aload_n hO dX12_image_160 0 rfl rfl ?_
    refine b_iload_n hO dX12_image_161 1 rfl rfl ?_
    refine b_callVV hO mdX12_writes mvX12_writes w1864 (ci := 12) rfl rfl (by decide) kLY_0 (As := [.int _]) (st := []) (ctX12_writes n0 hO.2.2.2.2.2.2.1 _ _) (Nat.le_of_ble_eq_true rfl) rfl rfl (Nat.le_of_ble_eq_true rfl) dX12_image_162 (fun z162 => ?_)
    refine b_aload_n hO dX12_image_165 0 rfl rfl ?_
    refine b_get hO flX12_216 kLY_0 (v := .int (gI _ 67)) rfl dX12_image_166 ?_
    exact b_iret hO dX12_image_169
  · refine b_iconst hO dX12_image_139 ic_i_5 ?_
    refine b_iload_n hO dX12_image_140 1 rfl rfl ?_
    refine b_imul hO dX12_image_141 ?_
    refine b_aload_n hO dX12_image_142 0 rfl rfl ?_
    refine b_get hO flX12_213 kLY_0 (v := .ref (ad 43)) rfl dX12_image_143 ?_
    refine b_iload_n hO dX12_image_146 2 rfl rfl ?_
    refine b_iald hO kLY_43 (n := 40) rfl dX12_image_147 ?_
    refine b_iadd hO dX12_image_148 ?_
    refine b_sipush hO dX12_image_149 ic_s_251 ?_
    refine b_irem hO dX12_image_152 ?_
    refine b_topI (fun x1_153 => ?_)
    refine b_istore_n hO dX12_image_153 rfl (by decide) (lv' := [(1, .int _), (0, .ref _), (2, .int _)]) rfl ?_
    refine b_iinc hO dX12_image_154 2 rfl ic_i_1 (by decide) (lv' := [(2, .int _), (1, .int _), (0, .ref _)]) rfl ?_
    refine b_goto hO dX12_image_157 (tgt := 131) (by decide) ?_
    refine b_sub [2, 1, 0] rfl ?_
    exact hk131 _ _ _
theorem lX12_image_131 (n0 : Nat) (hO : OKc p (rmL 2) s m args meth c LY D cy ad cX12_image RX12 3 2 (some .int)) : ∀ (w : Nat) (x1 : Int32) (x2 : Int32) (M : Mem), BL p l e (rmL 2) s m args below meth c LY D cy ad 3 (QI LY D cy ad) 131 [(0, .ref (ad 0)), (1, .int x1), (2, .int x2)] [] M (loopN (bX12_image_131 n0) (fun _ _ _ => none) w x1 x2 M) := by
  intro w
  induction w with
  | zero =>
    intros
    exact b_none
  | succ w ih =>
    intro x1 x2 M
    exact tbX12_image_131 n0 hO _ ih x1 x2 M
theorem tfX12_image_131 (n0 : Nat) (hO : OKc p (rmL 2) s m args meth c LY D cy ad cX12_image RX12 3 2 (some .int)) (x1 : Int32) (x2 : Int32) (M : Mem) : BL p l e (rmL 2) s m args below meth c LY D cy ad 3 (QI LY D cy ad) 131 [(0, .ref (ad 0)), (1, .int x1), (2, .int x2)] [] M (fX12_image_131 n0 x1 x2 M) := lX12_image_131 n0 hO n0 x1 x2 M
theorem tbX12_image_84 (n0 : Nat) (hO : OKc p (rmL 2) s m args meth c LY D cy ad cX12_image RX12 3 2 (some .int)) (k84 : Int32 → Mem → Option (Int32 × Mem)) (hk84 : ∀ (x1 : Int32) (M : Mem), BL p l e (rmL 2) s m args below meth c LY D cy ad 3 (QI LY D cy ad) 84 [(0, .ref (ad 0)), (1, .int x1)] [] M (k84 x1 M)) (x1 : Int32) (M : Mem) : BL p l e (rmL 2) s m args below meth c LY D cy ad 3 (QI LY D cy ad) 84 [(0, .ref (ad 0)), (1, .int x1)] [] M (bX12_image_84 n0 k84 x1 M) := by
  unfold bX12_image_84
  refine b_iload_n hO dX12_image_84 1 rfl rfl ?_
  refine b_aload_n hO dX12_image_85 0 rfl rfl ?_
  refine b_get hO flX12_78 kLY_0 (v := .ref (ad 10)) rfl dX12_image_86 ?_
  refine b_aload_n hO dX12_image_89 0 rfl rfl ?_
  refine b_get hO flX12_51 kLY_0 (v := .int (gI _ 13)) rfl dX12_image_90 ?_
  refine b_iald hO kLY_10 (n := 2) rfl dX12_image_93 ?_
  refine b_icmp_ge hO dX12_image_94 (tgt := 125) (by decide) ?_ ?_
  · refine b_sipush hO dX12_image_125 ic_s_227 ?_
    refine b_istore_n hO dX12_image_128 rfl (by decide) (lv' := [(1, .int _), (0, .ref _)]) rfl ?_
    refine b_iconst hO dX12_image_129 ic_i_0 ?_
    refine b_istore_n hO dX12_image_130 rfl (by decide) (lv' := [(2, .int _), (1, .int _), (0, .ref _)]) rfl ?_
    refine b_sub [2, 1, 0] rfl ?_
    exact tfX12_image_131 n0 hO _ _ _
  · refine b_aload_n hO dX12_image_97 0 rfl rfl ?_
    refine b_aload_n hO dX12_image_98 0 rfl rfl ?_
    refine b_get hO flX12_165 kLY_0 (v := .ref (ad 31)) rfl dX12_image_99 ?_
    refine b_iconst hO dX12_image_102 ic_i_0 ?_
    refine b_iald hO kLY_31 (n := 22) rfl dX12_image_103 ?_
    refine b_iload_n hO dX12_image_104 1 rfl rfl ?_
    refine b_callSI hO mdX12_has2 w1576 w1575 (As := [.int _, .int _]) (st := [.ref _]) (ctX12_has2 n0 hO.2.2.2.2.2.2.1 _ _ _) (Nat.le_of_ble_eq_true rfl) rfl rfl (Nat.le_of_ble_eq_true rfl) dX12_image_105 (fun z105 => ?_)
    refine b_if_eq hO dX12_image_108 (tgt := 115) (by decide) ?_ ?_
    · refine b_iconst hO dX12_image_115 ic_i_0 ?_
      exact tfX12_image_116 n0 hO k84 hk84 _ _ _
    · refine b_iconst hO dX12_image_111 ic_i_1 ?_
      refine b_goto hO dX12_image_112 (tgt := 116) (by decide) ?_
      exact tfX12_image_116 n0 hO k84 hk84 _ _ _
theorem lX12_image_84 (n0 : Nat) (hO : OKc p (rmL 2) s m args meth c LY D cy ad cX12_image RX12 3 2 (some .int)) : ∀ (w : Nat) (x1 : Int32) (M : Mem), BL p l e (rmL 2) s m args below meth c LY D cy ad 3 (QI LY D cy ad) 84 [(0, .ref (ad 0)), (1, .int x1)] [] M (loopN (bX12_image_84 n0) (fun _ _ => none) w x1 M) := by
  intro w
  induction w with
  | zero =>
    intros
    exact b_none
  | succ w ih =>
    intro x1 M
    exact tbX12_image_84 n0 hO _ ih x1 M
theorem tfX12_image_84 (n0 : Nat) (hO : OKc p (rmL 2) s m args meth c LY D cy ad cX12_image RX12 3 2 (some .int)) (x1 : Int32) (M : Mem) : BL p l e (rmL 2) s m args below meth c LY D cy ad 3 (QI LY D cy ad) 84 [(0, .ref (ad 0)), (1, .int x1)] [] M (fX12_image_84 n0 x1 M) := lX12_image_84 n0 hO n0 x1 M
theorem tbX12_image_30 (n0 : Nat) (hO : OKc p (rmL 2) s m args meth c LY D cy ad cX12_image RX12 3 2 (some .int)) (k30 : Int32 → Mem → Option (Int32 × Mem)) (hk30 : ∀ (x1 : Int32) (M : Mem), BL p l e (rmL 2) s m args below meth c LY D cy ad 3 (QI LY D cy ad) 30 [(0, .ref (ad 0)), (1, .int x1)] [] M (k30 x1 M)) (x1 : Int32) (M : Mem) : BL p l e (rmL 2) s m args below meth c LY D cy ad 3 (QI LY D cy ad) 30 [(0, .ref (ad 0)), (1, .int x1)] [] M (bX12_image_30 n0 k30 x1 M) := by
  unfold bX12_image_30
  refine b_iload_n hO dX12_image_30 1 rfl rfl ?_
  refine b_aload_n hO dX12_image_31 0 rfl rfl ?_
  refine b_get hO flX12_63 kLY_0 (v := .ref (ad 5)) rfl dX12_image_32 ?_
  refine b_aload_n hO dX12_image_35 0 rfl rfl ?_
  refine b_get hO flX12_51 kLY_0 (v := .int (gI _ 13)) rfl dX12_image_36 ?_
  refine b_iald hO kLY_5 (n := 2) rfl dX12_image_39 ?_
  refine b_icmp_ge hO dX12_image_40 (tgt := 82) (by decide) ?_ ?_
  · refine b_iconst hO dX12_image_82 ic_i_0 ?_
    refine b_istore_n hO dX12_image_83 rfl (by decide) (lv' := [(1, .int _), (0, .ref _)]) rfl ?_
    refine b_sub [1, 0] rfl ?_
    exact tfX12_image_84 n0 hO _ _
  · refine b_aload_n hO dX12_image_43 0 rfl rfl ?_
    refine b_aload_n hO dX12_image_44 0 rfl rfl ?_
    refine b_get hO flX12_159 kLY_0 (v := .ref (ad 29)) rfl dX12_image_45 ?_
    refine b_iload_n hO dX12_image_48 1 rfl rfl ?_
    refine b_iald hO kLY_29 (n := 110) rfl dX12_image_49 ?_
    refine b_callVV hO mdX12_writes mvX12_writes w1864 (ci := 12) rfl rfl (by decide) kLY_0 (As := [.int _]) (st := []) (ctX12_writes n0 hO.2.2.2.2.2.2.1 _ _) (Nat.le_of_ble_eq_true rfl) rfl rfl (Nat.le_of_ble_eq_true rfl) dX12_image_50 (fun z50 => ?_)
    refine b_aload_n hO dX12_image_53 0 rfl rfl ?_
    refine b_aload_n hO dX12_image_54 0 rfl rfl ?_
    refine b_get hO flX12_162 kLY_0 (v := .ref (ad 30)) rfl dX12_image_55 ?_
    refine b_iload_n hO dX12_image_58 1 rfl rfl ?_
    refine b_iald hO kLY_30 (n := 110) rfl dX12_image_59 ?_
    refine b_bipush hO dX12_image_60 ic_b_8 ?_
    refine b_ishr hO dX12_image_62 ?_
    refine b_callVV hO mdX12_writes mvX12_writes w1864 (ci := 12) rfl rfl (by decide) kLY_0 (As := [.int _]) (st := []) (ctX12_writes n0 hO.2.2.2.2.2.2.1 _ _) (Nat.le_of_ble_eq_true rfl) rfl rfl (Nat.le_of_ble_eq_true rfl) dX12_image_63 (fun z63 => ?_)
    refine b_aload_n hO dX12_image_66 0 rfl rfl ?_
    refine b_aload_n hO dX12_image_67 0 rfl rfl ?_
    refine b_get hO flX12_162 kLY_0 (v := .ref (ad 30)) rfl dX12_image_68 ?_
    refine b_iload_n hO dX12_image_71 1 rfl rfl ?_
    refine b_iald hO kLY_30 (n := 110) rfl dX12_image_72 ?_
    refine b_callVV hO mdX12_writes mvX12_writes w1864 (ci := 12) rfl rfl (by decide) kLY_0 (As := [.int _]) (st := []) (ctX12_writes n0 hO.2.2.2.2.2.2.1 _ _) (Nat.le_of_ble_eq_true rfl) rfl rfl (Nat.le_of_ble_eq_true rfl) dX12_image_73 (fun z73 => ?_)
    refine b_iinc hO dX12_image_76 1 rfl ic_i_1 (by decide) (lv' := [(1, .int _), (0, .ref _)]) rfl ?_
    refine b_goto hO dX12_image_79 (tgt := 30) (by decide) ?_
    refine b_sub [1, 0] rfl ?_
    exact hk30 _ _
theorem lX12_image_30 (n0 : Nat) (hO : OKc p (rmL 2) s m args meth c LY D cy ad cX12_image RX12 3 2 (some .int)) : ∀ (w : Nat) (x1 : Int32) (M : Mem), BL p l e (rmL 2) s m args below meth c LY D cy ad 3 (QI LY D cy ad) 30 [(0, .ref (ad 0)), (1, .int x1)] [] M (loopN (bX12_image_30 n0) (fun _ _ => none) w x1 M) := by
  intro w
  induction w with
  | zero =>
    intros
    exact b_none
  | succ w ih =>
    intro x1 M
    exact tbX12_image_30 n0 hO _ ih x1 M
theorem tfX12_image_30 (n0 : Nat) (hO : OKc p (rmL 2) s m args meth c LY D cy ad cX12_image RX12 3 2 (some .int)) (x1 : Int32) (M : Mem) : BL p l e (rmL 2) s m args below meth c LY D cy ad 3 (QI LY D cy ad) 30 [(0, .ref (ad 0)), (1, .int x1)] [] M (fX12_image_30 n0 x1 M) := lX12_image_30 n0 hO n0 x1 M
theorem tfX12_image (n0 : Nat) (hO : OKc p (rmL 2) s m args meth c LY D cy ad cX12_image RX12 3 2 (some .int)) (M : Mem) : BL p l e (rmL 2) s m args below meth c LY D cy ad 3 (QI LY D cy ad) 0 [(0, .ref (ad 0))] [] M (fX12_image n0 M) := by
  unfold fX12_image
  refine b_aload_n hO dX12_image_0 0 rfl rfl ?_
  refine b_iconst hO dX12_image_1 ic_i_0 ?_
  refine b_putI hO flX12_216 kLY_0 rfl rfl rfl (id := 67) rfl dX12_image_2 ?_
  refine b_bnd (fun M2 => ?_)
  refine b_aload_n hO dX12_image_5 0 rfl rfl ?_
  refine b_aload_n hO dX12_image_6 0 rfl rfl ?_
  refine b_get hO flX12_156 kLY_0 (v := .ref (ad 28)) rfl dX12_image_7 ?_
  refine b_iconst hO dX12_image_10 ic_i_0 ?_
  refine b_iald hO kLY_28 (n := 22) rfl dX12_image_11 ?_
  refine b_bipush hO dX12_image_12 ic_b_8 ?_
  refine b_ishr hO dX12_image_14 ?_
  refine b_callVV hO mdX12_writes mvX12_writes w1864 (ci := 12) rfl rfl (by decide) kLY_0 (As := [.int _]) (st := []) (ctX12_writes n0 hO.2.2.2.2.2.2.1 _ _) (Nat.le_of_ble_eq_true rfl) rfl rfl (Nat.le_of_ble_eq_true rfl) dX12_image_15 (fun z15 => ?_)
  refine b_aload_n hO dX12_image_18 0 rfl rfl ?_
  refine b_aload_n hO dX12_image_19 0 rfl rfl ?_
  refine b_get hO flX12_156 kLY_0 (v := .ref (ad 28)) rfl dX12_image_20 ?_
  refine b_iconst hO dX12_image_23 ic_i_0 ?_
  refine b_iald hO kLY_28 (n := 22) rfl dX12_image_24 ?_
  refine b_callVV hO mdX12_writes mvX12_writes w1864 (ci := 12) rfl rfl (by decide) kLY_0 (As := [.int _]) (st := []) (ctX12_writes n0 hO.2.2.2.2.2.2.1 _ _) (Nat.le_of_ble_eq_true rfl) rfl rfl (Nat.le_of_ble_eq_true rfl) dX12_image_25 (fun z25 => ?_)
  refine b_iconst hO dX12_image_28 ic_i_0 ?_
  refine b_istore_n hO dX12_image_29 rfl (by decide) (lv' := [(1, .int _), (0, .ref _)]) rfl ?_
  refine b_sub [1, 0] rfl ?_
  exact tfX12_image_30 n0 hO _ _
theorem ctX12_image (n0 : Nat) (hI : Inj LY ad) (M : Mem) : CT l LY D cy ad yX12_image cX12_image 3 (some .int) 2 (QI LY D cy ad) [.ref (ad 0)] M (fX12_image n0 M) :=
  CT.mk LYok hI (by decide) (Nat.le_of_ble_eq_true rfl) (fun hO => tfX12_image n0 hO M)
/-! X12_octet -/
def fX12_octet (n0 : Nat) (x1 : Int32) (M : Mem) : Option (Int32 × Mem) :=
  (fX12_is n0 x1 (0 : Int32) ((gI M 67) - (1 : Int32)) M).bind fun z8 =>
  if z8.1 = 0 then
    some ((-1 : Int32), z8.2)
  else
    if oob x1 40 then none else
    some ((gA z8.2 43 (Int32.toNatClampNeg x1)), z8.2)
theorem tfX12_octet (n0 : Nat) (hO : OKc p (rmL 2) s m args meth c LY D cy ad cX12_octet RX12 2 2 (some .int)) (x1 : Int32) (M : Mem) : BL p l e (rmL 2) s m args below meth c LY D cy ad 2 (QI LY D cy ad) 0 [(0, .ref (ad 0)), (1, .int x1)] [] M (fX12_octet n0 x1 M) := by
  unfold fX12_octet
  refine b_iload_n hO dX12_octet_0 1 rfl rfl ?_
  refine b_iconst hO dX12_octet_1 ic_i_0 ?_
  refine b_aload_n hO dX12_octet_2 0 rfl rfl ?_
  refine b_get hO flX12_216 kLY_0 (v := .int (gI _ 67)) rfl dX12_octet_3 ?_
  refine b_iconst hO dX12_octet_6 ic_i_1 ?_
  refine b_isub hO dX12_octet_7 ?_
  refine b_callSI hO mdX12_is w1561 w1560 (As := [.int _, .int _, .int _]) (st := []) (ctX12_is n0 hO.2.2.2.2.2.2.1 _ _ _ _) (Nat.le_of_ble_eq_true rfl) rfl rfl (Nat.le_of_ble_eq_true rfl) dX12_octet_8 (fun z8 => ?_)
  refine b_if_eq hO dX12_octet_11 (tgt := 23) (by decide) ?_ ?_
  · refine b_iconst hO dX12_octet_23 ic_i_m1 ?_
    exact b_iret hO dX12_octet_24
  · refine b_aload_n hO dX12_octet_14 0 rfl rfl ?_
    refine b_get hO flX12_213 kLY_0 (v := .ref (ad 43)) rfl dX12_octet_15 ?_
    refine b_iload_n hO dX12_octet_18 1 rfl rfl ?_
    refine b_iald hO kLY_43 (n := 40) rfl dX12_octet_19 ?_
    refine b_goto hO dX12_octet_20 (tgt := 24) (by decide) ?_
    exact b_iret hO dX12_octet_24
theorem ctX12_octet (n0 : Nat) (hI : Inj LY ad) (x1 : Int32) (M : Mem) : CT l LY D cy ad yX12_octet cX12_octet 2 (some .int) 2 (QI LY D cy ad) [.ref (ad 0), .int x1] M (fX12_octet n0 x1 M) :=
  CT.mk LYok hI (by decide) (Nat.le_of_ble_eq_true rfl) (fun hO => tfX12_octet n0 hO x1 M)
end
end
section
section
variable {p : Program} {l : Launch} {e : Env} {s : State} {m : MethodId} {args : Array Value} {below : List Frame} {meth : Method} {c : Code} {D : va_G} {cy : Nat → ClassId} {ad : Nat → Nat} {dd : Nat}

/-! X12_cornerOn -/
def fX12_cornerOn_73 (n0 : Nat) (x1 : Int32) (M : Mem) : Option (Int32 × Mem) :=
  if oob ((5 : Int32) + x1) 110 then none else
  if (999 : Int32) < (gA M 30 (Int32.toNatClampNeg ((5 : Int32) + x1))) then
    some ((0 : Int32), M)
  else
    some ((1 : Int32), M)
def fX12_cornerOn_22 (n0 : Nat) (x1 : Int32) (x2 : Int32) (u0 : Int32) (M : Mem) : Option (Int32 × Mem) :=
  if oob ((5 : Int32) + x1) 110 then none else
  bnd (sA M 29 (Int32.toNatClampNeg ((5 : Int32) + x1)) u0) fun M31 =>
  if oob (x2 + (1 : Int32)) 1800 then none else
  if oob (x2 + (2 : Int32)) 1800 then none else
  if oob ((5 : Int32) + x1) 110 then none else
  bnd (sA M31 30 (Int32.toNatClampNeg ((5 : Int32) + x1)) (((gA M31 1 (Int32.toNatClampNeg (x2 + (1 : Int32)))) <<< ((8 : Int32) &&& 31)) ||| (gA M31 1 (Int32.toNatClampNeg (x2 + (2 : Int32)))))) fun M59 =>
  if u0 = (-1 : Int32) then
    fX12_cornerOn_73 n0 x1 M59
  else
    (fX12_isThing n0 u0 M59).bind fun z67 =>
    if z67.1 = 0 then
      some ((0 : Int32), z67.2)
    else
      fX12_cornerOn_73 n0 x1 z67.2
def fX12_cornerOn (n0 : Nat) (x1 : Int32) (x2 : Int32) (M : Mem) : Option (Int32 × Mem) :=
  if oob x2 1800 then none else
  if (gA M 1 (Int32.toNatClampNeg x2)) = (255 : Int32) then
    fX12_cornerOn_22 n0 x1 x2 (-1 : Int32) M
  else
    if oob x2 1800 then none else
    fX12_cornerOn_22 n0 x1 x2 (gA M 1 (Int32.toNatClampNeg x2)) M
theorem tfX12_cornerOn_73 (n0 : Nat) (hO : OKc p (rmL 2) s m args meth c LY D cy ad cX12_cornerOn RX12 4 2 (some .boolean)) (x1 : Int32) (M : Mem) : BL p l e (rmL 2) s m args below meth c LY D cy ad 4 (QI LY D cy ad) 73 [(0, .ref (ad 0)), (1, .int x1)] [] M (fX12_cornerOn_73 n0 x1 M) := by
  unfold fX12_cornerOn_73
  refine b_aload_n hO dX12_cornerOn_73 0 rfl rfl ?_
  refine b_get hO flX12_162 kLY_0 (v := .ref (ad 30)) rfl dX12_cornerOn_74 ?_
  refine b_iconst hO dX12_cornerOn_77 ic_i_5 ?_
  refine b_iload_n hO dX12_cornerOn_78 1 rfl rfl ?_
  refine b_iadd hO dX12_cornerOn_79 ?_
  refine b_iald hO kLY_30 (n := 110) rfl dX12_cornerOn_80 ?_
  refine b_sipush hO dX12_cornerOn_81 ic_s_999 ?_
  refine b_icmp_gt hO dX12_cornerOn_84 (tgt := 91) (by decide) ?_ ?_
  · refine b_iconst hO dX12_cornerOn_91 ic_i_0 ?_
    exact b_zretc hO (Or.inl rfl) dX12_cornerOn_92
  · refine b_iconst hO dX12_cornerOn_87 ic_i_1 ?_
    refine b_goto hO dX12_cornerOn_88 (tgt := 92) (by decide) ?_
    exact b_zretc hO (Or.inr rfl) dX12_cornerOn_92
theorem tfX12_cornerOn_22 (n0 : Nat) (hO : OKc p (rmL 2) s m args meth c LY D cy ad cX12_cornerOn RX12 4 2 (some .boolean)) (x1 : Int32) (x2 : Int32) (u0 : Int32) (M : Mem) : BL p l e (rmL 2) s m args below meth c LY D cy ad 4 (QI LY D cy ad) 22 [(0, .ref (ad 0)), (1, .int x1), (2, .int x2)] [.int u0] M (fX12_cornerOn_22 n0 x1 x2 u0 M) := by
  unfold fX12_cornerOn_22
  refine b_istore_n hO dX12_cornerOn_22 rfl (by decide) (lv' := [(3, .int _), (0, .ref _), (1, .int _), (2, .int _)]) rfl ?_
  refine b_aload_n hO dX12_cornerOn_23 1 rfl rfl ?_
  refine b_get hO flX12_159 kLY_0 (v := .ref (ad 29)) rfl dX12_cornerOn_24 ?_
  refine b_iconst hO dX12_cornerOn_27 ic_i_5 ?_
  refine b_iload_n hO dX12_cornerOn_28 2 rfl rfl ?_
  refine b_iadd hO dX12_cornerOn_29 ?_
  refine b_iload_n hO dX12_cornerOn_30 0 rfl rfl ?_
  refine b_iast hO kLY_29 (n := 110) rfl dX12_cornerOn_31 ?_
  refine b_bnd (fun M31 => ?_)
  refine b_aload_n hO dX12_cornerOn_32 1 rfl rfl ?_
  refine b_get hO flX12_162 kLY_0 (v := .ref (ad 30)) rfl dX12_cornerOn_33 ?_
  refine b_iconst hO dX12_cornerOn_36 ic_i_5 ?_
  refine b_iload_n hO dX12_cornerOn_37 2 rfl rfl ?_
  refine b_iadd hO dX12_cornerOn_38 ?_
  refine b_aload_n hO dX12_cornerOn_39 1 rfl rfl ?_
  refine b_get hO flX12_7 kLY_0 (v := .ref (ad 1)) rfl dX12_cornerOn_40 ?_
  refine b_iload_n hO dX12_cornerOn_43 3 rfl rfl ?_
  refine b_iconst hO dX12_cornerOn_44 ic_i_1 ?_
  refine b_iadd hO dX12_cornerOn_45 ?_
  refine b_iald hO kLY_1 (n := 1800) rfl dX12_cornerOn_46 ?_
  refine b_bipush hO dX12_cornerOn_47 ic_b_8 ?_
  refine b_ishl hO dX12_cornerOn_49 ?_
  refine b_aload_n hO dX12_cornerOn_50 1 rfl rfl ?_
  refine b_get hO flX12_7 kLY_0 (v := .ref (ad 1)) rfl dX12_cornerOn_51 ?_
  refine b_iload_n hO dX12_cornerOn_54 3 rfl rfl ?_
  refine b_iconst hO dX12_cornerOn_55 ic_i_2 ?_
  refine b_iadd hO dX12_cornerOn_56 ?_
  refine b_iald hO kLY_1 (n := 1800) rfl dX12_cornerOn_57 ?_
  refine b_ior hO dX12_cornerOn_58 ?_
  refine b_iast hO kLY_30 (n := 110) rfl dX12_cornerOn_59 ?_
  refine b_bnd (fun M59 => ?_)
  refine b_iload_n hO dX12_cornerOn_60 0 rfl rfl ?_
  refine b_iconst hO dX12_cornerOn_61 ic_i_m1 ?_
  refine b_icmp_eq hO dX12_cornerOn_62 (tgt := 73) (by decide) ?_ ?_
  · refine b_sub [1, 2] rfl ?_
    exact tfX12_cornerOn_73 n0 hO _ _
  · refine b_aload_n hO dX12_cornerOn_65 1 rfl rfl ?_
    refine b_iload_n hO dX12_cornerOn_66 0 rfl rfl ?_
    refine b_callVI hO mdX12_isThing mvX12_isThing w1725 (ci := 12) rfl rfl (by decide) kLY_0 (As := [.int _]) (st := []) (ctX12_isThing n0 hO.2.2.2.2.2.2.1 _ _) (Nat.le_of_ble_eq_true rfl) rfl rfl (Nat.le_of_ble_eq_true rfl) dX12_cornerOn_67 (fun z67 => ?_)
    refine b_if_eq hO dX12_cornerOn_70 (tgt := 91) (by decide) ?_ ?_
    · refine b_iconst hO dX12_cornerOn_91 ic_i_0 ?_
      exact b_zretc hO (Or.inl rfl) dX12_cornerOn_92
    · refine b_sub [1, 2] rfl ?_
      exact tfX12_cornerOn_73 n0 hO _ _
theorem tfX12_cornerOn (n0 : Nat) (hO : OKc p (rmL 2) s m args meth c LY D cy ad cX12_cornerOn RX12 4 2 (some .boolean)) (x1 : Int32) (x2 : Int32) (M : Mem) : BL p l e (rmL 2) s m args below meth c LY D cy ad 4 (QI LY D cy ad) 0 [(0, .ref (ad 0)), (1, .int x1), (2, .int x2)] [] M (fX12_cornerOn n0 x1 x2 M) := by
  unfold fX12_cornerOn
  refine b_aload_n hO dX12_cornerOn_0 0 rfl rfl ?_
  refine b_get hO flX12_7 kLY_0 (v := .ref (ad 1)) rfl dX12_cornerOn_1 ?_
  refine b_iload_n hO dX12_cornerOn_4 2 rfl rfl ?_
  refine b_iald hO kLY_1 (n := 1800) rfl dX12_cornerOn_5 ?_
  refine b_sipush hO dX12_cornerOn_6 ic_s_255 ?_
  refine b_icmp_ne hO dX12_cornerOn_9 (tgt := 16) (by decide) ?_ ?_
  · refine b_aload_n hO dX12_cornerOn_16 0 rfl rfl ?_
    refine b_get hO flX12_7 kLY_0 (v := .ref (ad 1)) rfl dX12_cornerOn_17 ?_
    refine b_iload_n hO dX12_cornerOn_20 2 rfl rfl ?_
    refine b_iald hO kLY_1 (n := 1800) rfl dX12_cornerOn_21 ?_
    exact tfX12_cornerOn_22 n0 hO _ _ _ _
  · refine b_iconst hO dX12_cornerOn_12 ic_i_m1 ?_
    refine b_goto hO dX12_cornerOn_13 (tgt := 22) (by decide) ?_
    exact tfX12_cornerOn_22 n0 hO _ _ _ _
theorem ctX12_cornerOn (n0 : Nat) (hI : Inj LY ad) (x1 : Int32) (x2 : Int32) (M : Mem) : CT l LY D cy ad yX12_cornerOn cX12_cornerOn 4 (some .boolean) 2 (QI LY D cy ad) [.ref (ad 0), .int x1, .int x2] M (fX12_cornerOn n0 x1 x2 M) :=
  CT.mk LYok hI (by decide) (Nat.le_of_ble_eq_true rfl) (fun hO => tfX12_cornerOn n0 hO x1 x2 M)
/-! X12_comesOn -/
def bX12_comesOn_191 (n0 : Nat) (k191 : Int32 → Int32 → Mem → Option (Int32 × Mem)) (x2 : Int32) (x4 : Int32) (M : Mem) : Option (Int32 × Mem) :=
  if oob (gI M 13) 2 then none else
  if (gA M 10 (Int32.toNatClampNeg (gI M 13))) ≤ x4 then
    some ((1 : Int32), M)
  else
    if oob (x2 + x4) 1800 then none else
    if (gA M 1 (Int32.toNatClampNeg (x2 + x4))) ≤ (1 : Int32) then
      if oob (1 : Int32) 22 then none else
      if oob (x2 + x4) 1800 then none else
      if oob (1 : Int32) 22 then none else
      bnd (sA M 31 (Int32.toNatClampNeg (1 : Int32)) ((gA M 31 (Int32.toNatClampNeg (1 : Int32))) ||| ((gA M 1 (Int32.toNatClampNeg (x2 + x4))) <<< (x4 &&& 31)))) fun M240 =>
      k191 x2 (x4 + (1 : Int32)) M240
    else
      some ((0 : Int32), M)
def fX12_comesOn_191 (n0 : Nat) : Int32 → Int32 → Mem → Option (Int32 × Mem) := loopN (bX12_comesOn_191 n0) (fun _ _ _ => none) n0
def bX12_comesOn_151 (n0 : Nat) (k151 : Int32 → Int32 → Mem → Option (Int32 × Mem)) (x2 : Int32) (x4 : Int32) (M : Mem) : Option (Int32 × Mem) :=
  if oob (gI M 13) 2 then none else
  if (gA M 5 (Int32.toNatClampNeg (gI M 13))) ≤ x4 then
    fX12_comesOn_191 n0 x2 (0 : Int32) M
  else
    (fX12_cornerOn n0 x4 ((2 : Int32) + ((3 : Int32) * x4)) M).bind fun z174 =>
    if z174.1 = 0 then
      some ((0 : Int32), z174.2)
    else
      k151 x2 (x4 + (1 : Int32)) z174.2
def fX12_comesOn_151 (n0 : Nat) : Int32 → Int32 → Mem → Option (Int32 × Mem) := loopN (bX12_comesOn_151 n0) (fun _ _ _ => none) n0
def bX12_comesOn_62 (n0 : Nat) (k62 : Int32 → Int32 → Int32 → Int32 → Mem → Option (Int32 × Mem)) (x1 : Int32) (x2 : Int32) (x3 : Int32) (x4 : Int32) (M : Mem) : Option (Int32 × Mem) :=
  if (x1 - (1 : Int32)) ≤ x4 then
    if oob (x1 - (1 : Int32)) 1800 then none else
    if (gA M 1 (Int32.toNatClampNeg (x1 - (1 : Int32)))) = x3 then
      (fX12_copies n0 (1 : Int32) (0 : Int32) M).bind fun z109 =>
      if oob (0 : Int32) 1800 then none else
      if oob (1 : Int32) 1800 then none else
      if oob (1 : Int32) 22 then none else
      bnd (sA z109 28 (Int32.toNatClampNeg (1 : Int32)) (((gA z109 1 (Int32.toNatClampNeg (0 : Int32))) <<< ((8 : Int32) &&& 31)) ||| (gA z109 1 (Int32.toNatClampNeg (1 : Int32))))) fun M133 =>
      if oob (1 : Int32) 22 then none else
      bnd (sA M133 31 (Int32.toNatClampNeg (1 : Int32)) (0 : Int32)) fun M140 =>
      if oob (1 : Int32) 22 then none else
      bnd (sA M140 32 (Int32.toNatClampNeg (1 : Int32)) (0 : Int32)) fun M147 =>
      fX12_comesOn_151 n0 x2 (0 : Int32) M147
    else
      some ((0 : Int32), M)
  else
    if oob x4 1800 then none else
    if (251 : Int32) = 0 then none else
    bnd (rem32 (((5 : Int32) * x3) + (gA M 1 (Int32.toNatClampNeg x4))) (251 : Int32)) fun x3_85 =>
    k62 x1 x2 x3_85 (x4 + (1 : Int32)) M
def fX12_comesOn_62 (n0 : Nat) : Int32 → Int32 → Int32 → Int32 → Mem → Option (Int32 × Mem) := loopN (bX12_comesOn_62 n0) (fun _ _ _ _ _ => none) n0
def fX12_comesOn (n0 : Nat) (x1 : Int32) (M : Mem) : Option (Int32 × Mem) :=
  if oob (gI M 13) 2 then none else
  bnd ((2 : Int32) + ((3 : Int32) * (gA M 5 (Int32.toNatClampNeg (gI M 13))))) fun x2_13 =>
  if oob (gI M 13) 2 then none else
  if x1 = ((x2_13 + (gA M 10 (Int32.toNatClampNeg (gI M 13)))) + (1 : Int32)) then
    if oob (0 : Int32) 1800 then none else
    if oob (1 : Int32) 1800 then none else
    if (((gA M 1 (Int32.toNatClampNeg (0 : Int32))) <<< ((8 : Int32) &&& 31)) ||| (gA M 1 (Int32.toNatClampNeg (1 : Int32)))) ≤ (9999 : Int32) then
      fX12_comesOn_62 n0 x1 x2_13 (227 : Int32) (0 : Int32) M
    else
      some ((0 : Int32), M)
  else
    some ((0 : Int32), M)
theorem tbX12_comesOn_191 (n0 : Nat) (hO : OKc p (rmL 3) s m args meth c LY D cy ad cX12_comesOn RX12 5 3 (some .boolean)) (k191 : Int32 → Int32 → Mem → Option (Int32 × Mem)) (hk191 : ∀ (x2 : Int32) (x4 : Int32) (M : Mem), BL p l e (rmL 3) s m args below meth c LY D cy ad 5 (QI LY D cy ad) 191 [(0, .ref (ad 0)), (2, .int x2), (4, .int x4)] [] M (k191 x2 x4 M)) (x2 : Int32) (x4 : Int32) (M : Mem) : BL p l e (rmL 3) s m args below meth c LY D cy ad 5 (QI LY D cy ad) 191 [(0, .ref (ad 0)), (2, .int x2), (4, .int x4)] [] M (bX12_comesOn_191 n0 k191 x2 x4 M) := by
  unfold bX12_comesOn_191
  refine b_iload hO dX12_comesOn_191 2 rfl ?_
  refine b_aload_n hO dX12_comesOn_193 0 rfl rfl ?_
  refine b_get hO flX12_78 kLY_0 (v := .ref (ad 10)) rfl dX12_comesOn_194 ?_
  refine b_aload_n hO dX12_comesOn_197 0 rfl rfl ?_
  refine b_get hO flX12_51 kLY_0 (v := .int (gI _ 13)) rfl dX12_comesOn_198 ?_
  refine b_iald hO kLY_10 (n := 2) rfl dX12_comesOn_201 ?_
  refine b_icmp_ge hO dX12_comesOn_202 (tgt := 247) (by decide) ?_ ?_
  · refine b_iconst hO dX12_comesOn_247 ic_i_1 ?_
    exact b_zretc hO (Or.inr rfl) dX12_comesOn_248
  · refine b_aload_n hO dX12_comesOn_205 0 rfl rfl ?_
    refine b_get hO flX12_7 kLY_0 (v := .ref (ad 1)) rfl dX12_comesOn_206 ?_
    refine b_iload_n hO dX12_comesOn_209 1 rfl rfl ?_
    refine b_iload hO dX12_comesOn_210 2 rfl ?_
    refine b_iadd hO dX12_comesOn_212 ?_
    refine b_iald hO kLY_1 (n := 1800) rfl dX12_comesOn_213 ?_
    refine b_iconst hO dX12_comesOn_214 ic_i_1 ?_
    refine b_icmp_le hO dX12_comesOn_215 (tgt := 220) (by decide) ?_ ?_
    · refine b_aload_n hO dX12_comesOn_220 0 rfl rfl ?_
      refine b_get hO flX12_165 kLY_0 (v := .ref (ad 31)) rfl dX12_comesOn_221 ?_
      refine b_iconst hO dX12_comesOn_224 ic_i_1 ?_
      refine b_dup2 hO dX12_comesOn_225 rfl rfl ?_
      refine b_iald hO kLY_31 (n := 22) rfl dX12_comesOn_226 ?_
      refine b_aload_n hO dX12_comesOn_227 0 rfl rfl ?_
      refine b_get hO flX12_7 kLY_0 (v := .ref (ad 1)) rfl dX12_comesOn_228 ?_
      refine b_iload_n hO dX12_comesOn_231 1 rfl rfl ?_
      refine b_iload hO dX12_comesOn_232 2 rfl ?_
      refine b_iadd hO dX12_comesOn_234 ?_
      refine b_iald hO kLY_1 (n := 1800) rfl dX12_comesOn_235 ?_
      refine b_iload hO dX12_comesOn_236 2 rfl ?_
      refine b_ishl hO dX12_comesOn_238 ?_
      refine b_ior hO dX12_comesOn_239 ?_
      refine b_iast hO kLY_31 (n := 22) rfl dX12_comesOn_240 ?_
      refine b_bnd (fun M240 => ?_)
      refine b_iinc hO dX12_comesOn_241 2 rfl ic_i_1 (by decide) (lv' := [(4, .int _), (0, .ref _), (2, .int _)]) rfl ?_
      refine b_goto hO dX12_comesOn_244 (tgt := 191) (by decide) ?_
      refine b_sub [1, 2, 0] rfl ?_
      exact hk191 _ _ _
    · refine b_iconst hO dX12_comesOn_218 ic_i_0 ?_
      exact b_zretc hO (Or.inl rfl) dX12_comesOn_219
theorem lX12_comesOn_191 (n0 : Nat) (hO : OKc p (rmL 3) s m args meth c LY D cy ad cX12_comesOn RX12 5 3 (some .boolean)) : ∀ (w : Nat) (x2 : Int32) (x4 : Int32) (M : Mem), BL p l e (rmL 3) s m args below meth c LY D cy ad 5 (QI LY D cy ad) 191 [(0, .ref (ad 0)), (2, .int x2), (4, .int x4)] [] M (loopN (bX12_comesOn_191 n0) (fun _ _ _ => none) w x2 x4 M) := by
  intro w
  induction w with
  | zero =>
    intros
    exact b_none
  | succ w ih =>
    intro x2 x4 M
    exact tbX12_comesOn_191 n0 hO _ ih x2 x4 M
theorem tfX12_comesOn_191 (n0 : Nat) (hO : OKc p (rmL 3) s m args meth c LY D cy ad cX12_comesOn RX12 5 3 (some .boolean)) (x2 : Int32) (x4 : Int32) (M : Mem) : BL p l e (rmL 3) s m args below meth c LY D cy ad 5 (QI LY D cy ad) 191 [(0, .ref (ad 0)), (2, .int x2), (4, .int x4)] [] M (fX12_comesOn_191 n0 x2 x4 M) := lX12_comesOn_191 n0 hO n0 x2 x4 M
theorem tbX12_comesOn_151 (n0 : Nat) (hO : OKc p (rmL 3) s m args meth c LY D cy ad cX12_comesOn RX12 5 3 (some .boolean)) (k151 : Int32 → Int32 → Mem → Option (Int32 × Mem)) (hk151 : ∀ (x2 : Int32) (x4 : Int32) (M : Mem), BL p l e (rmL 3) s m args below meth c LY D cy ad 5 (QI LY D cy ad) 151 [(0, .ref (ad 0)), (2, .int x2), (4, .int x4)] [] M (k151 x2 x4 M)) (x2 : Int32) (x4 : Int32) (M : Mem) : BL p l e (rmL 3) s m args below meth c LY D cy ad 5 (QI LY D cy ad) 151 [(0, .ref (ad 0)), (2, .int x2), (4, .int x4)] [] M (bX12_comesOn_151 n0 k151 x2 x4 M) := by
  unfold bX12_comesOn_151
  refine b_iload hO dX12_comesOn_151 2 rfl ?_
  refine b_aload_n hO dX12_comesOn_153 0 rfl rfl ?_
  refine b_get hO flX12_63 kLY_0 (v := .ref (ad 5)) rfl dX12_comesOn_154 ?_
  refine b_aload_n hO dX12_comesOn_157 0 rfl rfl ?_
  refine b_get hO flX12_51 kLY_0 (v := .int (gI _ 13)) rfl dX12_comesOn_158 ?_
  refine b_iald hO kLY_5 (n := 2) rfl dX12_comesOn_161 ?_
  refine b_icmp_ge hO dX12_comesOn_162 (tgt := 188) (by decide) ?_ ?_
  · refine b_iconst hO dX12_comesOn_188 ic_i_0 ?_
    refine b_istore hO dX12_comesOn_189 (by decide) (lv' := [(4, .int _), (0, .ref _), (2, .int _)]) rfl ?_
    refine b_sub [1, 2, 0] rfl ?_
    exact tfX12_comesOn_191 n0 hO _ _ _
  · refine b_aload_n hO dX12_comesOn_165 0 rfl rfl ?_
    refine b_iload hO dX12_comesOn_166 2 rfl ?_
    refine b_iconst hO dX12_comesOn_168 ic_i_2 ?_
    refine b_iconst hO dX12_comesOn_169 ic_i_3 ?_
    refine b_iload hO dX12_comesOn_170 2 rfl ?_
    refine b_imul hO dX12_comesOn_172 ?_
    refine b_iadd hO dX12_comesOn_173 ?_
    refine b_callVI hO mdX12_cornerOn mvX12_cornerOn w1880 (ci := 12) rfl rfl (by decide) kLY_0 (As := [.int _, .int _]) (st := []) (ctX12_cornerOn n0 hO.2.2.2.2.2.2.1 _ _ _) (Nat.le_of_ble_eq_true rfl) rfl rfl (Nat.le_of_ble_eq_true rfl) dX12_comesOn_174 (fun z174 => ?_)
    refine b_if_ne hO dX12_comesOn_177 (tgt := 182) (by decide) ?_ ?_
    · refine b_iinc hO dX12_comesOn_182 2 rfl ic_i_1 (by decide) (lv' := [(4, .int _), (0, .ref _), (2, .int _)]) rfl ?_
      refine b_goto hO dX12_comesOn_185 (tgt := 151) (by decide) ?_
      refine b_sub [1, 2, 0] rfl ?_
      exact hk151 _ _ _
    · refine b_iconst hO dX12_comesOn_180 ic_i_0 ?_
      exact b_zretc hO (Or.inl rfl) dX12_comesOn_181
theorem lX12_comesOn_151 (n0 : Nat) (hO : OKc p (rmL 3) s m args meth c LY D cy ad cX12_comesOn RX12 5 3 (some .boolean)) : ∀ (w : Nat) (x2 : Int32) (x4 : Int32) (M : Mem), BL p l e (rmL 3) s m args below meth c LY D cy ad 5 (QI LY D cy ad) 151 [(0, .ref (ad 0)), (2, .int x2), (4, .int x4)] [] M (loopN (bX12_comesOn_151 n0) (fun _ _ _ => none) w x2 x4 M) := by
  intro w
  induction w with
  | zero =>
    intros
    exact b_none
  | succ w ih =>
    intro x2 x4 M
    exact tbX12_comesOn_151 n0 hO _ ih x2 x4 M
theorem tfX12_comesOn_151 (n0 : Nat) (hO : OKc p (rmL 3) s m args meth c LY D cy ad cX12_comesOn RX12 5 3 (some .boolean)) (x2 : Int32) (x4 : Int32) (M : Mem) : BL p l e (rmL 3) s m args below meth c LY D cy ad 5 (QI LY D cy ad) 151 [(0, .ref (ad 0)), (2, .int x2), (4, .int x4)] [] M (fX12_comesOn_151 n0 x2 x4 M) := lX12_comesOn_151 n0 hO n0 x2 x4 M
theorem tbX12_comesOn_62 (n0 : Nat) (hO : OKc p (rmL 3) s m args meth c LY D cy ad cX12_comesOn RX12 5 3 (some .boolean)) (k62 : Int32 → Int32 → Int32 → Int32 → Mem → Option (Int32 × Mem)) (hk62 : ∀ (x1 : Int32) (x2 : Int32) (x3 : Int32) (x4 : Int32) (M : Mem), BL p l e (rmL 3) s m args below meth c LY D cy ad 5 (QI LY D cy ad) 62 [(0, .ref (ad 0)), (1, .int x1), (2, .int x2), (3, .int x3), (4, .int x4)] [] M (k62 x1 x2 x3 x4 M)) (x1 : Int32) (x2 : Int32) (x3 : Int32) (x4 : Int32) (M : Mem) : BL p l e (rmL 3) s m args below meth c LY D cy ad 5 (QI LY D cy ad) 62 [(0, .ref (ad 0)), (1, .int x1), (2, .int x2), (3, .int x3), (4, .int x4)] [] M (bX12_comesOn_62 n0 k62 x1 x2 x3 x4 M) := by
  unfold bX12_comesOn_62
  refine b_iload hO dX12_comesOn_62 4 rfl ?_
  refine b_iload_n hO dX12_comesOn_64 1 rfl rfl ?_
  refine b_iconst hO dX12_comesOn_65 ic_i_1 ?_
  refine b_isub hO dX12_comesOn_66 ?_
  refine b_icmp_ge hO dX12_comesOn_67 (tgt := 92) (by decide) ?_ ?_
  · refine b_aload_n hO dX12_comesOn_92 0 rfl rfl ?_
    refine b_get hO flX12_7 kLY_0 (v := .ref (ad 1)) rfl dX12_comesOn_93 ?_
    refine b_iload_n hO dX12_comesOn_96 1 rfl rfl ?_
    refine b_iconst hO dX12_comesOn_97 ic_i_1 ?_
    refine b_isub hO dX12_comesOn_98 ?_
    refine b_iald hO kLY_1 (n := 1800) rfl dX12_comesOn_99 ?_
    refine b_iload_n hO dX12_comesOn_100 3 rfl rfl ?_
    refine b_icmp_eq hO dX12_comesOn_101 (tgt := 106) (by decide) ?_ ?_
    · refine b_aload_n hO dX12_comesOn_106 0 rfl rfl ?_
      refine b_iconst hO dX12_comesOn_107 ic_i_1 ?_
      refine b_iconst hO dX12_comesOn_108 ic_i_0 ?_
      refine b_callVV hO mdX12_copies mvX12_copies w1705 (ci := 12) rfl rfl (by decide) kLY_0 (As := [.int _, .int _]) (st := []) (ctX12_copies n0 hO.2.2.2.2.2.2.1 _ _ _) (Nat.le_of_ble_eq_true rfl) rfl rfl (Nat.le_of_ble_eq_true rfl) dX12_comesOn_109 (fun z109 => ?_)
      refine b_aload_n hO dX12_comesOn_112 0 rfl rfl ?_
      refine b_get hO flX12_156 kLY_0 (v := .ref (ad 28)) rfl dX12_comesOn_113 ?_
      refine b_iconst hO dX12_comesOn_116 ic_i_1 ?_
      refine b_aload_n hO dX12_comesOn_117 0 rfl rfl ?_
      refine b_get hO flX12_7 kLY_0 (v := .ref (ad 1)) rfl dX12_comesOn_118 ?_
      refine b_iconst hO dX12_comesOn_121 ic_i_0 ?_
      refine b_iald hO kLY_1 (n := 1800) rfl dX12_comesOn_122 ?_
      refine b_bipush hO dX12_comesOn_123 ic_b_8 ?_
      refine b_ishl hO dX12_comesOn_125 ?_
      refine b_aload_n hO dX12_comesOn_126 0 rfl rfl ?_
      refine b_get hO flX12_7 kLY_0 (v := .ref (ad 1)) rfl dX12_comesOn_127 ?_
      refine b_iconst hO dX12_comesOn_130 ic_i_1 ?_
      refine b_iald hO kLY_1 (n := 1800) rfl dX12_comesOn_131 ?_
      refine b_ior hO dX12_comesOn_132 ?_
      refine b_iast hO kLY_28 (n := 22) rfl dX12_comesOn_133 ?_
      refine b_bnd (fun M133 => ?_)
      refine b_aload_n hO dX12_comesOn_134 0 rfl rfl ?_
      refine b_get hO flX12_165 kLY_0 (v := .ref (ad 31)) rfl dX12_comesOn_135 ?_
      refine b_iconst hO dX12_comesOn_138 ic_i_1 ?_
      refine b_iconst hO dX12_comesOn_139 ic_i_0 ?_
      refine b_iast hO kLY_31 (n := 22) rfl dX12_comesOn_140 ?_
      refine b_bnd (fun M140 => ?_)
      refine b_aload_n hO dX12_comesOn_141 0 rfl rfl ?_
      refine b_get hO flX12_168 kLY_0 (v := .ref (ad 32)) rfl dX12_comesOn_142 ?_
      refine b_iconst hO dX12_comesOn_145 ic_i_1 ?_
      refine b_iconst hO dX12_comesOn_146 ic_i_0 ?_
      refine b_iast hO kLY_32 (n := 22) rfl dX12_comesOn_147 ?_
      refine b_bnd (fun M147 => ?_)
      refine b_iconst hO dX12_comesOn_148 ic_i_0 ?_
      refine b_istore hO dX12_comesOn_149 (by decide) (lv' := [(4, .int _), (0, .ref _), (1, .int _), (2, .int _), (3, .int _)]) rfl ?_
      refine b_sub [1, 3, 0] rfl ?_
      exact tfX12_comesOn_151 n0 hO _ _ _
    · refine b_iconst hO dX12_comesOn_104 ic_i_0 ?_
      exact b_zretc hO (Or.inl rfl) dX12_comesOn_105
  · refine b_iconst hO dX12_comesOn_70 ic_i_5 ?_
    refine b_iload_n hO dX12_comesOn_71 3 rfl rfl ?_
    refine b_imul hO dX12_comesOn_72 ?_
    refine b_aload_n hO dX12_comesOn_73 0 rfl rfl ?_
    refine b_get hO flX12_7 kLY_0 (v := .ref (ad 1)) rfl dX12_comesOn_74 ?_
    refine b_iload hO dX12_comesOn_77 4 rfl ?_
    refine b_iald hO kLY_1 (n := 1800) rfl dX12_comesOn_79 ?_
    refine b_iadd hO dX12_comesOn_80 ?_
    refine b_sipush hO dX12_comesOn_81 ic_s_251 ?_
    refine b_irem hO dX12_comesOn_84 ?_
    refine b_topI (fun x3_85 => ?_)
    refine b_istore_n hO dX12_comesOn_85 rfl (by decide) (lv' := [(3, .int _), (0, .ref _), (1, .int _), (2, .int _), (4, .int _)]) rfl ?_
    refine b_iinc hO dX12_comesOn_86 4 rfl ic_i_1 (by decide) (lv' := [(4, .int _), (3, .int _), (0, .ref _), (1, .int _), (2, .int _)]) rfl ?_
    refine b_goto hO dX12_comesOn_89 (tgt := 62) (by decide) ?_
    refine b_sub [2, 3, 4, 1, 0] rfl ?_
    exact hk62 _ _ _ _ _
theorem lX12_comesOn_62 (n0 : Nat) (hO : OKc p (rmL 3) s m args meth c LY D cy ad cX12_comesOn RX12 5 3 (some .boolean)) : ∀ (w : Nat) (x1 : Int32) (x2 : Int32) (x3 : Int32) (x4 : Int32) (M : Mem), BL p l e (rmL 3) s m args below meth c LY D cy ad 5 (QI LY D cy ad) 62 [(0, .ref (ad 0)), (1, .int x1), (2, .int x2), (3, .int x3), (4, .int x4)] [] M (loopN (bX12_comesOn_62 n0) (fun _ _ _ _ _ => none) w x1 x2 x3 x4 M) := by
  intro w
  induction w with
  | zero =>
    intros
    exact b_none
  | succ w ih =>
    intro x1 x2 x3 x4 M
    exact tbX12_comesOn_62 n0 hO _ ih x1 x2 x3 x4 M
theorem tfX12_comesOn_62 (n0 : Nat) (hO : OKc p (rmL 3) s m args meth c LY D cy ad cX12_comesOn RX12 5 3 (some .boolean)) (x1 : Int32) (x2 : Int32) (x3 : Int32) (x4 : Int32) (M : Mem) : BL p l e (rmL 3) s m args below meth c LY D cy ad 5 (QI LY D cy ad) 62 [(0, .ref (ad 0)), (1, .int x1), (2, .int x2), (3, .int x3), (4, .int x4)] [] M (fX12_comesOn_62 n0 x1 x2 x3 x4 M) := lX12_comesOn_62 n0 hO n0 x1 x2 x3 x4 M
theorem tfX12_comesOn (n0 : Nat) (hO : OKc p (rmL 3) s m args meth c LY D cy ad cX12_comesOn RX12 5 3 (some .boolean)) (x1 : Int32) (M : Mem) : BL p l e (rmL 3) s m args below meth c LY D cy ad 5 (QI LY D cy ad) 0 [(0, .ref (ad 0)), (1, .int x1)] [] M (fX12_comesOn n0 x1 M) := by
  unfold fX12_comesOn
  refine b_iconst hO dX12_comesOn_0 ic_i_2 ?_
  refine b_iconst hO dX12_comesOn_1 ic_i_3 ?_
  refine b_aload_n hO dX12_comesOn_2 0 rfl rfl ?_
  refine b_get hO flX12_63 kLY_0 (v := .ref (ad 5)) rfl dX12_comesOn_3 ?_
  refine b_aload_n hO dX12_comesOn_6 0 rfl rfl ?_
  refine b_get hO flX12_51 kLY_0 (v := .int (gI _ 13)) rfl dX12_comesOn_7 ?_
  refine b_iald hO kLY_5 (n := 2) rfl dX12_comesOn_10 ?_
  refine b_imul hO dX12_comesOn_11 ?_
  refine b_iadd hO dX12_comesOn_12 ?_
  refine b_topI (fun x2_13 => ?_)
  refine b_istore_n hO dX12_comesOn_13 rfl (by decide) (lv' := [(2, .int _), (0, .ref _), (1, .int _)]) rfl ?_
  refine b_iload_n hO dX12_comesOn_14 2 rfl rfl ?_
  refine b_iload_n hO dX12_comesOn_15 0 rfl rfl ?_
  refine b_aload_n hO dX12_comesOn_16 1 rfl rfl ?_
  refine b_get hO flX12_78 kLY_0 (v := .ref (ad 10)) rfl dX12_comesOn_17 ?_
  refine b_aload_n hO dX12_comesOn_20 1 rfl rfl ?_
  refine b_get hO flX12_51 kLY_0 (v := .int (gI _ 13)) rfl dX12_comesOn_21 ?_
  refine b_iald hO kLY_10 (n := 2) rfl dX12_comesOn_24 ?_
  refine b_iadd hO dX12_comesOn_25 ?_
  refine b_iconst hO dX12_comesOn_26 ic_i_1 ?_
  refine b_iadd hO dX12_comesOn_27 ?_
  refine b_icmp_ne hO dX12_comesOn_28 (tgt := 53) (by decide) ?_ ?_
  · refine b_iconst hO dX12_comesOn_53 ic_i_0 ?_
    exact b_zretc hO (Or.inl rfl) dX12_comesOn_54
  · refine b_aload_n hO dX12_comesOn_31 1 rfl rfl ?_
    refine b_get hO flX12_7 kLY_0 (v := .ref (ad 1)) rfl dX12_comesOn_32 ?_
    refine b_iconst hO dX12_comesOn_35 ic_i_0 ?_
    refine b_iald hO kLY_1 (n := 1800) rfl dX12_comesOn_36 ?_
    refine b_bipush hO dX12_comesOn_37 ic_b_8 ?_
    refine b_ishl hO dX12_comesOn_39 ?_
    refine b_aload_n hO dX12_comesOn_40 1 rfl rfl ?_
    refine b_get hO flX12_7 kLY_0 (v := .ref (ad 1)) rfl dX12_comesOn_41 ?_
    refine b_iconst hO dX12_comesOn_44 ic_i_1 ?_
    refine b_iald hO kLY_1 (n := 1800) rfl dX12_comesOn_45 ?_
    refine b_ior hO dX12_comesOn_46 ?_
    refine b_sipush hO dX12_comesOn_47 ic_s_9999 ?_
    refine b_icmp_le hO dX12_comesOn_50 (tgt := 55) (by decide) ?_ ?_
    · refine b_sipush hO dX12_comesOn_55 ic_s_227 ?_
      refine b_istore_n hO dX12_comesOn_58 rfl (by decide) (lv' := [(3, .int _), (2, .int _), (0, .ref _), (1, .int _)]) rfl ?_
      refine b_iconst hO dX12_comesOn_59 ic_i_0 ?_
      refine b_istore hO dX12_comesOn_60 (by decide) (lv' := [(4, .int _), (3, .int _), (2, .int _), (0, .ref _), (1, .int _)]) rfl ?_
      refine b_sub [3, 4, 2, 1, 0] rfl ?_
      exact tfX12_comesOn_62 n0 hO _ _ _ _ _
    · refine b_iconst hO dX12_comesOn_53 ic_i_0 ?_
      exact b_zretc hO (Or.inl rfl) dX12_comesOn_54
theorem ctX12_comesOn (n0 : Nat) (hI : Inj LY ad) (x1 : Int32) (M : Mem) : CT l LY D cy ad yX12_comesOn cX12_comesOn 5 (some .boolean) 3 (QI LY D cy ad) [.ref (ad 0), .int x1] M (fX12_comesOn n0 x1 M) :=
  CT.mk LYok hI (by decide) (Nat.le_of_ble_eq_true rfl) (fun hO => tfX12_comesOn n0 hO x1 M)
/-! X12_on -/
def fX12_on (n0 : Nat) (M : Mem) : Option (Int32 × Mem) :=
  bnd (gI M 1) fun x1_4 =>
  bnd (sI M 1 (0 : Int32)) fun M7 =>
  (fX12_comesOn n0 x1_4 M7).bind fun z12 =>
  if z12.1 = 0 then
    (fX12_refuses n0 (5 : Int32) z12.2).bind fun z20 =>
    if z20.1 < 0 then
      some ((0 : Int32), z20.2)
    else
      some ((1 : Int32), z20.2)
  else
    (fX12_copies n0 (0 : Int32) (1 : Int32) z12.2).bind fun z35 =>
    bnd (sI z35 54 (0 : Int32)) fun M40 =>
    some ((1 : Int32), M40)
theorem tfX12_on (n0 : Nat) (hO : OKc p (rmL 4) s m args meth c LY D cy ad cX12_on RX12 2 4 (some .boolean)) (M : Mem) : BL p l e (rmL 4) s m args below meth c LY D cy ad 2 (QI LY D cy ad) 0 [(0, .ref (ad 0))] [] M (fX12_on n0 M) := by
  unfold fX12_on
  refine b_aload_n hO dX12_on_0 0 rfl rfl ?_
  refine b_get hO flX12_13 kLY_0 (v := .int (gI _ 1)) rfl dX12_on_1 ?_
  refine b_topI (fun x1_4 => ?_)
  refine b_istore_n hO dX12_on_4 rfl (by decide) (lv' := [(1, .int _), (0, .ref _)]) rfl ?_
  refine b_aload_n hO dX12_on_5 1 rfl rfl ?_
  refine b_iconst hO dX12_on_6 ic_i_0 ?_
  refine b_putI hO flX12_13 kLY_0 rfl rfl rfl (id := 1) rfl dX12_on_7 ?_
  refine b_bnd (fun M7 => ?_)
  refine b_aload_n hO dX12_on_10 1 rfl rfl ?_
  refine b_iload_n hO dX12_on_11 0 rfl rfl ?_
  refine b_callVI hO mdX12_comesOn mvX12_comesOn w1876 (ci := 12) rfl rfl (by decide) kLY_0 (As := [.int _]) (st := []) (ctX12_comesOn n0 hO.2.2.2.2.2.2.1 _ _) (Nat.le_of_ble_eq_true rfl) rfl rfl (Nat.le_of_ble_eq_true rfl) dX12_on_12 (fun z12 => ?_)
  refine b_if_ne hO dX12_on_15 (tgt := 32) (by decide) ?_ ?_
  · refine b_aload_n hO dX12_on_32 1 rfl rfl ?_
    refine b_iconst hO dX12_on_33 ic_i_0 ?_
    refine b_iconst hO dX12_on_34 ic_i_1 ?_
    refine b_callVV hO mdX12_copies mvX12_copies w1705 (ci := 12) rfl rfl (by decide) kLY_0 (As := [.int _, .int _]) (st := []) (ctX12_copies n0 hO.2.2.2.2.2.2.1 _ _ _) (Nat.le_of_ble_eq_true rfl) rfl rfl (Nat.le_of_ble_eq_true rfl) dX12_on_35 (fun z35 => ?_)
    refine b_aload_n hO dX12_on_38 1 rfl rfl ?_
    refine b_iconst hO dX12_on_39 ic_i_0 ?_
    refine b_putI hO flX12_177 kLY_0 rfl rfl rfl (id := 54) rfl dX12_on_40 ?_
    refine b_bnd (fun M40 => ?_)
    refine b_iconst hO dX12_on_43 ic_i_1 ?_
    exact b_zretc hO (Or.inr rfl) dX12_on_44
  · refine b_aload_n hO dX12_on_18 1 rfl rfl ?_
    refine b_iconst hO dX12_on_19 ic_i_5 ?_
    refine b_callVI hO mdX12_refuses mvX12_refuses w1453 (ci := 12) rfl rfl (by decide) kLY_0 (As := [.int _]) (st := []) (ctX12_refuses n0 hO.2.2.2.2.2.2.1 _ _) (Nat.le_of_ble_eq_true rfl) rfl rfl (Nat.le_of_ble_eq_true rfl) dX12_on_20 (fun z20 => ?_)
    refine b_if_lt hO dX12_on_23 (tgt := 30) (by decide) ?_ ?_
    · refine b_iconst hO dX12_on_30 ic_i_0 ?_
      exact b_zretc hO (Or.inl rfl) dX12_on_31
    · refine b_iconst hO dX12_on_26 ic_i_1 ?_
      refine b_goto hO dX12_on_27 (tgt := 31) (by decide) ?_
      exact b_zretc hO (Or.inr rfl) dX12_on_31
theorem ctX12_on (n0 : Nat) (hI : Inj LY ad) (M : Mem) : CT l LY D cy ad yX12_on cX12_on 2 (some .boolean) 4 (QI LY D cy ad) [.ref (ad 0)] M (fX12_on n0 M) :=
  CT.mk LYok hI (by decide) (Nat.le_of_ble_eq_true rfl) (fun hO => tfX12_on n0 hO M)
end
end
section
/-! new int[N][K]: the outer array at the heap's end, its rows right behind it -/
/-- the class of int[][], over that of int[] -/
def AOI (cy : Nat → ClassId) (U : State) : Prop := (∃ k : Class, U.vm.classes[cy 3]? = some k ∧ k.kind = .array (cy 0) (.array .int)) ∧ ∃ (k : Class) (b : ClassId), U.vm.classes[cy 0]? = some k ∧ k.kind = .array b .int
theorem AOI.moved {cy : Nat → ClassId} {u U : State} (hvm : u.vm.Alike U.vm) (h : AOI cy u) : AOI cy U := by
  obtain ⟨⟨k, h1, h2⟩, k2, b, h3, h4⟩ := h
  obtain ⟨k', hk', he⟩ := hvm.2.2 _ _ h1
  obtain ⟨k2', hk2', he2⟩ := hvm.2.2 _ _ h3
  exact ⟨⟨k', hk', by rw [he]; exact h2⟩, k2', b, hk2', by rw [he2]; exact h4⟩
def ga_row (c0 : ClassId) (K : Nat) : Cell := { cls := c0, slots := Array.replicate K (.int 0), vm := .none }
def ga_out (c3 : ClassId) (N h : Nat) : Nat → Cell
  | 0 => { cls := c3, slots := Array.replicate N .null, vm := .none }
  | i + 1 => (ga_out c3 N h i).setSlot i (.ref (h + 1 + i))
def ga_st (s : State) (c3 c0 : ClassId) (N K : Nat) : Nat → State
  | 0 => s.pushCell (ga_out c3 N s.heap.size 0)
  | i + 1 => ((ga_st s c3 c0 N K i).pushCell (ga_row c0 K)).setCell s.heap.size (ga_out c3 N s.heap.size (i + 1))
theorem ga_out_is (c3 : ClassId) (N h : Nat) : ∀ i, ga_out c3 N h i = arrV c3 N (fun j => va_rf (if j < i then some (h + 1 + j) else none))
  | 0 => by
    show ({ cls := c3, slots := Array.replicate N .null, vm := .none } : Cell) = _
    rw [arrV_new]
    refine congrArg (arrV c3 N) (funext fun j => ?_)
    simp [va_rf]
  | i + 1 => by
    show (ga_out c3 N h i).setSlot i (.ref (h + 1 + i)) = _
    rw [ga_out_is c3 N h i, arrV_store]
    refine congrArg (arrV c3 N) (funext fun j => ?_)
    by_cases e : j = i
    · subst e; simp [updV, va_rf]
    · by_cases hj : j < i
      · simp [updV, e, hj, Nat.lt_succ_of_lt hj]
      · simp [updV, e, hj, show ¬ j < i + 1 by omega]
theorem ga_out_shape (c3 : ClassId) (N h i : Nat) : (ga_out c3 N h i).cls = c3 ∧ (ga_out c3 N h i).vm = .none ∧ (ga_out c3 N h i).slots.size = N := by
  rw [ga_out_is]
  exact ⟨rfl, rfl, arrV_size _ _ _⟩
theorem ga_facts (s : State) (c3 c0 : ClassId) (N K : Nat) : ∀ i, (ga_st s c3 c0 N K i).heap.size = s.heap.size + 1 + i ∧ (ga_st s c3 c0 N K i).heap[s.heap.size]? = some (ga_out c3 N s.heap.size i) ∧ (ga_st s c3 c0 N K i).vm = s.vm ∧ (ga_st s c3 c0 N K i).slotsUsed = s.slotsUsed + N + i * K
  | 0 => ⟨by simp [ga_st], by simp [ga_st], rfl, by simp [ga_st, ga_out]⟩
  | i + 1 => by
    obtain ⟨h1, h2, h3, h4⟩ := ga_facts s c3 c0 N K i
    have hlt : s.heap.size < (ga_st s c3 c0 N K i).heap.size := by omega
    have hp : ((ga_st s c3 c0 N K i).pushCell (ga_row c0 K)).heap[s.heap.size]? = some (ga_out c3 N s.heap.size i) := by
      rw [State.heap_pushCell_of_lt (h := hlt)]; exact h2
    refine ⟨?_, State.heap_setCell_self hp, by simp [ga_st, h3], ?_⟩
    · simp [ga_st, State.setCell, h1]; omega
    · simp [ga_st, h4, ga_row, Nat.succ_mul]; omega
theorem ga_top (s : State) (f : JFrame) (c3 c0 : ClassId) (N K : Nat) : ∀ i, ga_st (s.setTop f) c3 c0 N K i = (ga_st s c3 c0 N K i).setTop f
  | 0 => rfl
  | i + 1 => by simp only [ga_st, ga_top s f c3 c0 N K i, State.heap_setTop, State.pushCell_setTop, State.setCell_setTop]
theorem ga_old (s : State) (c3 c0 : ClassId) (N K : Nat) {a : Addr} (ha : a < s.heap.size) : ∀ i, (ga_st s c3 c0 N K i).heap[a]? = s.heap[a]?
  | 0 => State.heap_pushCell_of_lt _ _ ha
  | i + 1 => by
    have h1 := (ga_facts s c3 c0 N K i).1
    have hlt : a < (ga_st s c3 c0 N K i).heap.size := Nat.lt_of_lt_of_le ha (by rw [h1]; omega)
    show (((ga_st s c3 c0 N K i).pushCell (ga_row c0 K)).setCell s.heap.size _).heap[a]? = _
    rw [State.heap_setCell_other (Nat.ne_of_gt ha), State.heap_pushCell_of_lt (h := hlt)]
    exact ga_old s c3 c0 N K ha i
theorem ga_rows (s : State) (c3 c0 : ClassId) (N K : Nat) : ∀ i j, j < i → (ga_st s c3 c0 N K i).heap[s.heap.size + 1 + j]? = some (ga_row c0 K)
  | 0, _, h => absurd h (Nat.not_lt_zero _)
  | i + 1, j, h => by
    have h1 := (ga_facts s c3 c0 N K i).1
    show (((ga_st s c3 c0 N K i).pushCell (ga_row c0 K)).setCell s.heap.size _).heap[s.heap.size + 1 + j]? = _
    rw [State.heap_setCell_other (show s.heap.size ≠ s.heap.size + 1 + j by omega)]
    rcases Nat.lt_or_ge j i with hj | hj
    · have hlt : s.heap.size + 1 + j < (ga_st s c3 c0 N K i).heap.size := by omega
      rw [State.heap_pushCell_of_lt (h := hlt)]
      exact ga_rows s c3 c0 N K i j hj
    · have e : s.heap.size + 1 + j = (ga_st s c3 c0 N K i).heap.size := by omega
      rw [e]
      exact State.heap_pushCell_size _ _
section GRIDWP
variable {E : CtlPost} {e : Env} {d : Bool} {acts : List Action} {s : State}
/-- the model's own making of one array -/
theorem ga_one {c comp : ClassId} {k : Class} {type : FieldType} {len : Nat} {init : Value} (hk : s.vm.classes[c]? = some k) (hkind : k.kind = .array comp type) (hlim : ¬ len > e.platform.arrayLengthLimit) (hheap : ¬ len * componentBytes type > e.platform.maxHeapBytes) (hfit : fits type init = true) (hdef : init.isDefault = true) {Q : Addr → Pre} (h1 : s.heap.size < e.platform.maxCells) (h2 : s.slotsUsed + len ≤ e.platform.maxSlots) (hq : Q s.heap.size d acts (s.pushCell { cls := c, slots := Array.replicate len init, vm := .none })) : wp (Jvm.newArray c len init) Q E e d acts s := by
  have hslot : ∀ i v, (Array.replicate len init)[i]? = some v → s.fitsSlot c .none i v = true := fun i v hv => by
    rw [Array.getElem?_replicate] at hv
    split at hv
    · cases hv; simp [State.fitsSlot, State.slotType?, hk, hkind, hfit]
    · cases hv
  have hacts : allocActs (Array.replicate len init) s.heap.size acts = acts := by
    unfold allocActs
    rw [if_pos (by rw [Array.all_replicate]; split <;> simp [hdef])]
  simp only [Jvm.newArray, Jvm.arrayFits, wp_bind', W.ask, W.ite, hlim, if_false, wp_pure', W.theClass, hk, hkind, hheap, W.alloc, W.stop, Option.some.injEq, exists_eq_left', Array.size_replicate, hacts]
  rw [if_neg (by omega)]
  exact ⟨h1, h2, hslot, hq⟩
/-- int[N][K], as the model makes it -/
theorem ga_make {c3 c0 b : ClassId} {k3 k0 : Class} {n k : Int32} (h3 : s.vm.classes[c3]? = some k3) (hk3 : k3.kind = .array c0 (.array .int)) (h0 : s.vm.classes[c0]? = some k0) (hk0 : k0.kind = .array b .int) (hn : ¬ n < 0) (hk : ¬ k < 0)
    (hl1 : ¬ n.toNatClampNeg > e.platform.arrayLengthLimit) (hh1 : ¬ n.toNatClampNeg * componentBytes (.array .int) > e.platform.maxHeapBytes) (hl2 : ¬ k.toNatClampNeg > e.platform.arrayLengthLimit) (hh2 : ¬ k.toNatClampNeg * componentBytes .int > e.platform.maxHeapBytes)
    (hc : s.heap.size + 1 + n.toNatClampNeg ≤ e.platform.maxCells) (hs : s.slotsUsed + n.toNatClampNeg + n.toNatClampNeg * k.toNatClampNeg ≤ e.platform.maxSlots) {Q : Addr → Pre} (hq : ∀ d' acts', Q s.heap.size d' acts' (ga_st s c3 c0 n.toNatClampNeg k.toNatClampNeg n.toNatClampNeg)) : wp (multianewarray.make c3 [n, k]) Q E e d acts s := by
  have hfind : ([k].find? (· < 0)) = none := by simp [hk]
  rw [multianewarray.make]
  simp only [wp_bind', W.ite, hn, if_false, wp_pure', W.theClass, h3, hk3, Option.some.injEq, exists_eq_left']
  refine ga_one h3 hk3 hl1 hh1 rfl rfl (by omega) (by have := Nat.zero_le (n.toNatClampNeg * k.toNatClampNeg); omega) ?_
  simp only [hfind]
  rw [ite_self, wp_bind', Std.Legacy.Range.forIn_eq_forIn_range']
  have hsz : ([:n.toNatClampNeg] : Std.Legacy.Range).size = n.toNatClampNeg := by simp [Std.Legacy.Range.size]
  rw [hsz]
  show wp (forIn (List.range' 0 n.toNatClampNeg 1) PUnit.unit _) _ E e d acts _
  refine wp_forIn_inv (fun rest s' => ∃ i, i ≤ n.toNatClampNeg ∧ rest = List.range' i (n.toNatClampNeg - i) ∧ s' = ga_st s c3 c0 n.toNatClampNeg k.toNatClampNeg i) _ _ ⟨0, Nat.zero_le _, rfl, rfl⟩ ?_ ?_
  · rintro x rest s' d' acts' Q' ⟨i, hi, hl, rfl⟩ hnext
    have hlt : i < n.toNatClampNeg := by
      rcases Nat.lt_or_ge i n.toNatClampNeg with h | h
      · exact h
      · rw [show n.toNatClampNeg - i = 0 by omega] at hl; simp at hl
    rw [show n.toNatClampNeg - i = (n.toNatClampNeg - (i + 1)) + 1 by omega, List.range'_succ] at hl
    obtain ⟨rfl, hrest⟩ := List.cons.inj hl
    obtain ⟨f1, f2, f3, f4⟩ := ga_facts s c3 c0 n.toNatClampNeg k.toNatClampNeg x
    obtain ⟨o1, o2, o3⟩ := ga_out_shape c3 n.toNatClampNeg s.heap.size x
    have hmul : x * k.toNatClampNeg + k.toNatClampNeg ≤ n.toNatClampNeg * k.toNatClampNeg := by
      have := Nat.mul_le_mul_right k.toNatClampNeg (show x + 1 ≤ n.toNatClampNeg from hlt)
      rw [Nat.succ_mul] at this; exact this
    simp only [wp_bind']
    rw [multianewarray.make]
    simp only [wp_bind', W.ite, hk, if_false, wp_pure', W.theClass, f3, h0, hk0, Option.some.injEq, exists_eq_left']
    refine ga_one (by rw [f3]; exact h0) hk0 hl2 hh2 rfl rfl (by rw [f1]; omega) (by rw [f4]; omega) ?_
    have hlt0 : s.heap.size < (ga_st s c3 c0 n.toNatClampNeg k.toNatClampNeg x).heap.size := by rw [f1]; omega
    simp only [wp_bind', W.writeLoc, wp_pure']
    refine ⟨ga_out c3 n.toNatClampNeg s.heap.size x, by rw [State.heap_pushCell_of_lt (h := hlt0)]; exact f2, by rw [o2]; simp, by rw [o3]; exact hlt, ?_, hnext _ _ _ ⟨x + 1, hlt, hrest, ?_⟩⟩
    · rw [o1, o2]
      simp [State.fitsSlot, State.slotType?, f3, h3, hk3]
      rfl
    · rw [f1]; rfl
  · rintro s' d' acts' ⟨i, hi, hl, rfl⟩
    have hiN : i = n.toNatClampNeg := by
      rcases Nat.lt_or_ge i n.toNatClampNeg with h | h
      · rw [show n.toNatClampNeg - i = (n.toNatClampNeg - (i + 1)) + 1 by omega, List.range'_succ] at hl; cases hl
      · omega
    subst hiN
    simp only [wp_pure']
    exact hq _ _
end GRIDWP
section GRIDW
variable {p : Program} {l : Launch} {e : Env} {R : Room} {s : State} {m : MethodId} {args : Array Value} {below : List Frame} {meth : Method} {c : Code} {T : State} {locs : List Loc} {cells slots : Nat}
theorem ga_stand (X : Stand p l e R s m args below meth c T locs cells slots) (c3 c0 : ClassId) (N K : Nat) : ∀ i, ∃ J : List Loc, (∀ x ∈ J, x.base = T.heap.size) ∧ Stand p l e R s m args below meth c (ga_st T c3 c0 N K i) (locs ++ J) (cells + 1 + i) (slots + N + i * K)
  | 0 => by
    have h := X.pushed (ga_out c3 N T.heap.size 0)
    rw [(ga_out_shape c3 N T.heap.size 0).2.2] at h
    exact ⟨[], fun _ h => absurd h List.not_mem_nil, by simpa [ga_st] using h⟩
  | i + 1 => by
    obtain ⟨J, hJ, Xi⟩ := ga_stand X c3 c0 N K i
    obtain ⟨f1, f2, f3, f4⟩ := ga_facts T c3 c0 N K i
    have hlt : T.heap.size < (ga_st T c3 c0 N K i).heap.size := by omega
    have hcell : ((ga_st T c3 c0 N K i).pushCell (ga_row c0 K)).heap[T.heap.size]? = some (ga_out c3 N T.heap.size i) := by rw [State.heap_pushCell_of_lt (h := hlt)]; exact f2
    have h := (Xi.pushed (ga_row c0 K)).stored hcell i (.ref (T.heap.size + 1 + i))
    rw [show (ga_row c0 K).slots.size = K by simp [ga_row]] at h
    refine ⟨J ++ [⟨T.heap.size, i⟩], fun x hx => ?_, ?_⟩
    · rcases List.mem_append.mp hx with q | q
      · exact hJ x q
      · rw [List.mem_singleton.mp q]
    · rw [← List.append_assoc, show slots + N + (i + 1) * K = slots + N + i * K + K by rw [Nat.succ_mul]; omega]
      exact h
theorem ga_step (X : Stand p l e R s m args below meth c T locs cells slots) (hexec : p.tables.exec = Jvm.exec) {cy : Nat → ClassId} {own : String} {index : Nat} (hown : s.vm.findClass own = some m.cls) (hclink : (Cond.classLink own index "[[I").before args s = true) (hname : s.vm.findClass "[[I" = some (cy 3)) (hA : AOI cy s)
    {g : JFrame} (hg : g.method = m) (hdg : decode c.code g.pc = .ok (.multianewarray index 2, 4)) {n k : Int32} {rest : List Value} (hstack : g.stack = .int k :: .int n :: rest) (hn : ¬ n < 0) (hk : ¬ k < 0) (hb1 : n.toNatClampNeg ≤ 1000) (hb2 : k.toNatClampNeg ≤ 1000)
    (hcells : cells + (1 + n.toNatClampNeg) ≤ R.cells) (hslots : slots + (n.toNatClampNeg + n.toNatClampNeg * k.toNatClampNeg) ≤ R.slots) :
    ∃ (vm₁ : Vm), Stand p l e R s m args below meth c (ga_st (T.setVm vm₁) (cy 3) (cy 0) n.toNatClampNeg k.toNatClampNeg n.toNatClampNeg) locs (cells + 1 + n.toNatClampNeg) (slots + n.toNatClampNeg + n.toNatClampNeg * k.toNatClampNeg) ∧
      ∀ target, Steps p.tables e below ((ga_st (T.setVm vm₁) (cy 3) (cy 0) n.toNatClampNeg k.toNatClampNeg n.toNatClampNeg).setTop { g with pc := g.pc + 4, stack := .ref T.heap.size :: rest }) target → Steps p.tables e below (T.setTop g) target := by
  subst hg
  have hpl : e.platform.magicAccessors = ({} : Platform).magicAccessors := by rw [X.admits.platform]
  obtain ⟨⟨k3, h3, hk3⟩, k0, b, h0, hk0⟩ := hA
  obtain ⟨c9, hfc9, hcl⟩ := Cond.classLink_spec hown hclink e.platform hpl
  cases hname.symm.trans hfc9
  obtain ⟨hg₁, hwarm₁, hready₁⟩ := State.classEntry (e := e) X.warmed hcl
  generalize T.vm.noted g.method.cls index (.cls (cy 3)) = vm₁ at hg₁ hwarm₁ hready₁
  have hal : s.vm.Alike vm₁ := hwarm₁.alike
  obtain ⟨k3', h3', e3⟩ := hal.2.2 _ _ h3
  obtain ⟨k0', h0', e0⟩ := hal.2.2 _ _ h0
  have X₁ := X.noted hwarm₁
  obtain ⟨hr1, hr2⟩ := X.roomAbove hcells hslots
  obtain ⟨J, hJ, XF⟩ := ga_stand X₁ (cy 3) (cy 0) n.toNatClampNeg k.toNatClampNeg n.toNatClampNeg
  have XD : Stand p l e R s g.method args below meth c (ga_st (T.setVm vm₁) (cy 3) (cy 0) n.toNatClampNeg k.toNatClampNeg n.toNatClampNeg) locs (cells + 1 + n.toNatClampNeg) (slots + n.toNatClampNeg + n.toNatClampNeg * k.toNatClampNeg) :=
    ⟨XF.admits, XF.cas, XF.clock, XF.frames, XF.room, XF.hears, XF.method, XF.code, XF.here, XF.tail, XF.warmed, XF.limits, XF.bytes, XF.same.drop_fresh (by
      intro x hx
      rw [hJ x hx]
      exact X.same.2.1)⟩
  refine ⟨vm₁, XD, fun target hrest => ?_⟩
  have hl1 : ¬ n.toNatClampNeg > e.platform.arrayLengthLimit := by rw [Launch.admits_arrayLengthLimit X.admits]; omega
  have hh1 : ¬ n.toNatClampNeg * componentBytes (.array .int) > e.platform.maxHeapBytes := by rw [Launch.admits_maxHeapBytes X.admits]; show ¬ n.toNatClampNeg * 4 > 536870912; omega
  have hl2 : ¬ k.toNatClampNeg > e.platform.arrayLengthLimit := by rw [Launch.admits_arrayLengthLimit X.admits]; omega
  have hh2 : ¬ k.toNatClampNeg * componentBytes .int > e.platform.maxHeapBytes := by rw [Launch.admits_maxHeapBytes X.admits]; show ¬ k.toNatClampNeg * 4 > 536870912; omega
  jvm_step X.here [hexec, hdg]
  simp only [multianewarray.sem, wp_bind', W.resolveClassAt_links (State.method?_setTop g X.here.top) hg₁]
  rw [W.popN, if_neg (by decide)]
  refine ⟨g, State.topJava?_setTop' (s := T.setVm vm₁) g X.here.top, [.int n, .int k], rest, rfl, hstack, ?_⟩
  simp only [List.mapM_cons, List.mapM_nil, wp_bind', wp_pure']
  refine ga_make (k3 := k3') (k0 := k0') (c0 := cy 0) (b := b) h3' (by rw [e3]; exact hk3) h0' (by rw [e0]; exact hk0) hn hk hl1 hh1 hl2 hh2 (by show T.heap.size + 1 + _ ≤ _; omega) (by show T.slotsUsed + _ + _ ≤ _; omega) (fun d' acts' => ?_)
  have eS : ((T.setTop g).setVm vm₁).setTop { g with stack := rest } = (T.setVm vm₁).setTop { g with stack := rest } := by
    show ((T.setVm vm₁).setTop g).setTop _ = _
    rw [State.setTop_setTop]
  rw [eS, ga_top]
  simp only [wp_bind', W.mark, W.pushRef, State.topJava?_setTop' _ XF.here.top, Option.some.injEq, exists_eq_left', State.setTop_setTop, State.heap_setTop]
  intro acts
  simp [jvm, XF.here.top]
  exact hrest
end GRIDW
end
section
/-- the words of entries that reach a nest mate's constructor -/
def nestW : List Cond := [Cond.methodLinkNest "PalmHours" 11 ⟨"PalmHours$Tape", "<init>", "()V"⟩ "PalmHours", Cond.methodLinkNest "PalmHours" 18 ⟨"PalmHours$Town", "<init>", "()V"⟩ "PalmHours", Cond.methodLinkNest "PalmHours$Town" 66 ⟨"PalmHours$Formula", "<init>", "()V"⟩ "PalmHours", Cond.methodLinkNest "PalmHours" 53 ⟨"PalmHours$Past", "<init>", "()V"⟩ "PalmHours", Cond.methodLinkNest "PalmHours" 60 ⟨"PalmHours$Walks", "<init>", "()V"⟩ "PalmHours", Cond.methodLinkNest "PalmHours" 67 ⟨"PalmHours$Seen", "<init>", "()V"⟩ "PalmHours"]
theorem nestW_M : ∀ w ∈ nestW, ∃ (a : String) (i : Nat) (x : MethodName) (h : String), w = .methodLinkNest a i x h := by
  intro w hw
  simp only [nestW, List.mem_cons, List.not_mem_nil, or_false] at hw
  rcases hw with rfl | rfl | rfl | rfl | rfl | rfl <;> exact ⟨_, _, _, _, rfl⟩
def owT : String := "thing weigh lasts corner road to steps palm has doing at hour says gone pass held minute empty if or and not all min max "
def owB : List Int32 := [116, 104, 105, 110, 103, 32, 119, 101, 105, 103, 104, 32, 108, 97, 115, 116, 115, 32, 99, 111, 114, 110, 101, 114, 32, 114, 111, 97, 100, 32, 116, 111, 32, 115, 116, 101, 112, 115, 32, 112, 97, 108, 109, 32, 104, 97, 115, 32, 100, 111, 105, 110, 103, 32, 97, 116, 32, 104, 111, 117, 114, 32, 115, 97, 121, 115, 32, 103, 111, 110, 101, 32, 112, 97, 115, 115, 32, 104, 101, 108, 100, 32, 109, 105, 110, 117, 116, 101, 32, 101, 109, 112, 116, 121, 32, 105, 102, 32, 111, 114, 32, 97, 110, 100, 32, 110, 111, 116, 32, 97, 108, 108, 32, 109, 105, 110, 32, 109, 97, 120, 32]
/-- what lies below B0 and stays: the class of int[][], the nest mates' words, the String constant ka with its bytes va, two statics -/
def EX (cy : Nat → ClassId) (B0 ka va : Nat) (U : State) : Prop := AOI cy U ∧ (∀ w ∈ nestW, va_Nw w U) ∧ vk_R "PalmHours$Tokens" 41 owT ka U ∧ vk_S 1 [121] [owB] (fun _ => ka) (fun _ => va) (fun q => B0 ≤ q) U U.heap ∧ va_Z "java/lang/String" "COMPACT_STRINGS" "Z" (.int 1) (fun q => B0 ≤ q) U U.heap ∧ va_Zq "jdk/internal/util/Preconditions" "SIOOBE_FORMATTER" "Ljava/util/function/BiFunction;" (fun q => B0 ≤ q) U U.heap
theorem EX.st {cy : Nat → ClassId} {B0 ka va : Nat} {s U : State} (hW : s.WarmedH U.vm) (hq : ∀ a : Nat, a < s.heap.size → ¬ B0 ≤ a → U.heap[a]? = s.heap[a]?) (h : EX cy B0 ka va s) : EX cy B0 ka va U := by
  obtain ⟨h1, h2, h3, h4, h5, h6⟩ := h
  refine ⟨h1.moved hW.alike, fun w hw => ?_, h3.warm hW, (h4.moved hW.alike).kept hq, (h5.moved hW.alike).kept hq, (h6.moved hW.alike).kept hq⟩
  obtain ⟨a, i, x, h, rfl⟩ := nestW_M w hw
  exact (h2 _ hw).warmM hW
theorem EX.call {cy : Nat → ClassId} {B0 ka va : Nat} {U : State} (g : JFrame) (mk : MethodId) (a : Array Value) (h : EX cy B0 ka va U) : EX cy B0 ka va (U.calling g mk a) := by
  obtain ⟨h1, h2, h3, h4, h5, h6⟩ := h
  refine ⟨h1.moved (u := U) (U := U.calling g mk a) (Vm.Alike.refl U.vm), fun w hw => ?_, h3.same (u := U) (U := U.calling g mk a) rfl, h4.moved (u := U) (U := U.calling g mk a) (Vm.Alike.refl U.vm), h5.moved (u := U) (U := U.calling g mk a) (Vm.Alike.refl U.vm), h6.moved (u := U) (U := U.calling g mk a) (Vm.Alike.refl U.vm)⟩
  obtain ⟨b, i, x, h, rfl⟩ := nestW_M w hw
  exact (h2 _ hw).same (u := U) (U := U.calling g mk a) rfl rfl
/-! CONSTRUCTORS: the world is an explicit list of cells; new ones come at its end -/
def OKd (p : Program) (R : Room) (s : State) (m : MethodId) (args : Array Value) (meth : Method) (c : Code) (D : va_G) (cy : Nat → ClassId) (B0 ka va : Nat) (A : Nat → Prop) (cc : ByteArray) (own : String) (nL : Nat) : Prop :=
  p.tables.exec = Jvm.exec ∧ c.code = cc ∧ c.maxLocals = nL ∧ s.vm.findClass own = some m.cls ∧ (∀ w ∈ lw_g, w.before args s = true) ∧ va_K D vwCl (tyl cy) s ∧ (∀ q, s.heap.size ≤ q → A q) ∧ meth.locks = false ∧ meth.sig.returnType = none ∧ meth.name = "<init>" ∧ EX cy B0 ka va s ∧ ∀ q, A q → B0 ≤ q
def BC (p : Program) (l : Launch) (e : Env) (R : Room) (s : State) (m : MethodId) (args : Array Value) (below : List Frame) (meth : Method) (c : Code) (D : va_G) (A : Nat → Prop) (nL : Nat) (Q : State → Prop) (pc : Nat) (lv : List (Nat × Value)) (st : List Value) (ws : va_W) (cells slots : Nat) : Prop :=
  ∀ (H : Heap) (locs : List Loc) (ls : Array Slot), va_P D vwCl ws H → va_D A ws → va_S A s.heap H locs → lv_has ls nL lv → W p l e R s m args below meth c H locs cells slots Q (F0 m pc ls st)
/-- a constructor's contract: the cells w0 become w1 u, where u names the new ones -/
def CC (l : Launch) (D : va_G) (cy : Nat → ClassId) (B0 ka va : Nat) (y : MethodName) (bytes : ByteArray) (maxL : Nat) (R : Room) (av : List Value) (w0 : va_W) (w1 : (Nat → Nat) → va_W) (mc ms : Nat) : Prop :=
  ∀ sz, Met l y (.code y bytes maxL none :: lw_g) R (va_Pc av (fun U => U.heap.size = sz ∧ va_P D vwCl w0 U.heap ∧ va_K D vwCl (tyl cy) U ∧ va_D (fun _ => True) w0 ∧ EX cy B0 ka va U ∧ ∀ q, va_A w0 sz q → B0 ≤ q)) (va_Qv (fun _ : Nat → Nat => True) (fun u t => va_P D vwCl (w1 u) t.heap ∧ va_K D vwCl (tyl cy) t ∧ va_D (va_A w0 sz) (w1 u)) (va_A w0 sz)) mc ms (va_A w0 sz)
section CROWS
variable {p : Program} {l : Launch} {e : Env} {R : Room} {s : State} {m : MethodId} {args : Array Value} {below : List Frame} {meth : Method} {c : Code} {D : va_G} {cy : Nat → ClassId} {A : Nat → Prop} {nL : Nat} {Q : State → Prop} {cc : ByteArray} {own : String}
variable {B0 ka va : Nat} {pc : Nat} {lv : List (Nat × Value)} {st : List Value} {ws : va_W} {cells slots : Nat}
theorem k_aload_n (hO : OKd p R s m args meth c D cy B0 ka va A cc own nL) {k : Fin 4} {i : Nat} {x : Nat} (hdg : decode cc pc = .ok (.aload_n k, 1)) (j : Nat) (hj : lv[j]? = some (i, .ref x)) (hi : (k : Nat) = i) (K : BC p l e R s m args below meth c D A nL Q (pc + 1) lv (.ref x :: st) ws cells slots) : BC p l e R s m args below meth c D A nL Q pc lv st ws cells slots := fun H locs ls hP hD hS hl => lv_aload_n hO.1 hO.2.1 hdg hi (lv_at hl j hj) (K H locs ls hP hD hS hl)
theorem k_iload_n (hO : OKd p R s m args meth c D cy B0 ka va A cc own nL) {k : Fin 4} {i : Nat} {x : Int32} (hdg : decode cc pc = .ok (.iload_n k, 1)) (j : Nat) (hj : lv[j]? = some (i, .int x)) (hi : (k : Nat) = i) (K : BC p l e R s m args below meth c D A nL Q (pc + 1) lv (.int x :: st) ws cells slots) : BC p l e R s m args below meth c D A nL Q pc lv st ws cells slots := fun H locs ls hP hD hS hl => lv_iload_n hO.1 hO.2.1 hdg hi (lv_at hl j hj) (K H locs ls hP hD hS hl)
theorem k_iconst (hO : OKd p R s m args meth c D cy B0 ka va A cc own nL) {n : Int} {v : Int32} (hdg : decode cc pc = .ok (.iconst n, 1)) (hv : Int32.ofInt n = v) (K : BC p l e R s m args below meth c D A nL Q (pc + 1) lv (.int v :: st) ws cells slots) : BC p l e R s m args below meth c D A nL Q pc lv st ws cells slots := fun H locs ls hP hD hS hl => lv_iconst hO.1 hO.2.1 hdg hv (K H locs ls hP hD hS hl)
theorem k_bipush (hO : OKd p R s m args meth c D cy B0 ka va A cc own nL) {n : Int} {v : Int32} (hdg : decode cc pc = .ok (.bipush n, 2)) (hv : (Int8.ofInt n).toInt32 = v) (K : BC p l e R s m args below meth c D A nL Q (pc + 2) lv (.int v :: st) ws cells slots) : BC p l e R s m args below meth c D A nL Q pc lv st ws cells slots := fun H locs ls hP hD hS hl => lv_bipush hO.1 hO.2.1 hdg hv (K H locs ls hP hD hS hl)
theorem k_sipush (hO : OKd p R s m args meth c D cy B0 ka va A cc own nL) {n : Int} {v : Int32} (hdg : decode cc pc = .ok (.sipush n, 3)) (hv : (Int16.ofInt n).toInt32 = v) (K : BC p l e R s m args below meth c D A nL Q (pc + 3) lv (.int v :: st) ws cells slots) : BC p l e R s m args below meth c D A nL Q pc lv st ws cells slots := fun H locs ls hP hD hS hl => lv_sipush hO.1 hO.2.1 hdg hv (K H locs ls hP hD hS hl)
theorem k_lconst (hO : OKd p R s m args meth c D cy B0 ka va A cc own nL) {n : Fin 2} {v : Int64} (hdg : decode cc pc = .ok (.lconst n, 1)) (hv : Int64.ofNat (n : Nat) = v) (K : BC p l e R s m args below meth c D A nL Q (pc + 1) lv (.long v :: st) ws cells slots) : BC p l e R s m args below meth c D A nL Q pc lv st ws cells slots := fun H locs ls hP hD hS hl => lv_lconst hO.1 hO.2.1 hdg hv (K H locs ls hP hD hS hl)
theorem k_dup (hO : OKd p R s m args meth c D cy B0 ka va A cc own nL) {vv : Value} (hdg : decode cc pc = .ok (.dup, 1)) (hva : vv.category = 1) (K : BC p l e R s m args below meth c D A nL Q (pc + 1) lv (vv :: vv :: st) ws cells slots) : BC p l e R s m args below meth c D A nL Q pc lv (vv :: st) ws cells slots := fun H locs ls hP hD hS hl => lv_dup hO.1 hO.2.1 hdg hva (K H locs ls hP hD hS hl)
theorem k_obj (hO : OKd p R s m args meth c D cy B0 ka va A cc own nL) {a idx : Nat} (hlk : Cond.methodLink own idx objectInit ∈ lw_g) (hin : Cond.instanceMethod objectInit ∈ lw_g) (hcd : Cond.code objectInit ⟨#[0xb1]⟩ 1 none ∈ lw_g) (hf : 1 ≤ R.frames) (hroom : (st.map fun v => v.category).sum + 12 ≤ R.locals) (hdg : decode cc pc = .ok (.invokespecial idx, 3)) (K : BC p l e R s m args below meth c D A nL Q (pc + 3) lv st ws cells slots) : BC p l e R s m args below meth c D A nL Q pc lv (.ref a :: st) ws cells slots := fun H locs ls hP hD hS hl => 
  W.objInit hO.1 hO.2.1 hO.2.2.2.1 (hO.2.2.2.2.1 _ hlk) (hO.2.2.2.2.1 _ hin) (hO.2.2.2.2.1 _ hcd) rfl (by rw [hO.2.2.1]; exact hl.1) rfl hdg hf (by show 2 * 0 + _ + 12 ≤ _; omega) (K H locs ls hP hD hS hl)
theorem k_get (hO : OKd p R s m args meth c D cy B0 ka va A cc own nL) {Cn : String} {T : u_T} {N : Nat} {ty0 : Nat → FieldType} {idx ci k a : Nat} (hF : FL own idx ci k Cn T N ty0) (q0 : Nat) {fs : List Value} (he : ws[q0]? = some (a, .inr (ci, fs))) {v : Value} (hv : fs[k]? = some v) (hdg : decode cc pc = .ok (.getfield idx, 3)) (K : BC p l e R s m args below meth c D A nL Q (pc + 3) lv (v :: st) ws cells slots) : BC p l e R s m args below meth c D A nL Q pc lv (.ref a :: st) ws cells slots := fun H locs ls hP hD hS hl => by
  obtain ⟨h1, h2, h3, h4, h5, h6, h7⟩ := hF
  exact va_get (D := D) (ci := ci) (v := v) (C := Cn) (T := T) (N := N) hO.1 hO.2.1 hO.2.2.2.2.1 h2 hO.2.2.2.1 hO.2.2.2.2.2.1 hP q0 he h1 k h3 (hO.2.2.2.2.1 _ h4) (fun _ h9 => h9) hv hdg (K H locs ls hP hD hS hl)
theorem k_put (hO : OKd p R s m args meth c D cy B0 ka va A cc own nL) {Cn : String} {T : u_T} {N : Nat} {ty0 : Nat → FieldType} {idx ci k a : Nat} {v : Value} {ty : FieldType} {ws' : va_W} (hF : FL own idx ci k Cn T N ty0) (q0 : Nat) {fs : List Value} (he : ws[q0]? = some (a, .inr (ci, fs))) (hfin : (T k).2.2.2 = false) (hty : ty0 k = ty) (hn : narrow ty v = v) (hfit : fits ty v = true) (hlen : k < fs.length) (hw : ws.set q0 (a, .inr (ci, fs.set k v)) = ws') (hdg : decode cc pc = .ok (.putfield idx, 3)) (K : BC p l e R s m args below meth c D A nL Q (pc + 3) lv st ws' cells slots) : BC p l e R s m args below meth c D A nL Q pc lv (v :: .ref a :: st) ws cells slots := fun H locs ls hP hD hS hl => by
  obtain ⟨h1, h2, h3, h4, h5, h6, h7⟩ := hF
  subst hw
  exact va_put (D := D) (ci := ci) (v := v) (ty := ty) (C := Cn) (T := T) (N := N) hO.1 hO.2.1 hO.2.2.2.2.1 h2 ty0 h6 h7 hO.2.2.2.1 hO.2.2.2.2.2.1 hP hD hS q0 he h1 k h3 (hO.2.2.2.2.1 _ h4) (fun _ h9 => h9) hfin (by rw [h6 k h3, hty]) hn hfit hlen hdg (fun H1 locs1 hP1 hD1 hS1 => K H1 locs1 ls hP1 hD1 hS1 hl)
theorem k_putF (hO : OKd p R s m args meth c D cy B0 ka va A cc own nL) {Cn : String} {T : u_T} {N : Nat} {ty0 : Nat → FieldType} {idx ci k a : Nat} {v : Value} {ty : FieldType} {ws' : va_W} (hF : FL own idx ci k Cn T N ty0) (q0 : Nat) {fs : List Value} (he : ws[q0]? = some (a, .inr (ci, fs))) (hfin : (T k).2.2.2 = true) (hdecl : (T k).1 = own) (hty : ty0 k = ty) (hn : narrow ty v = v) (hfit : fits ty v = true) (hlen : k < fs.length) (hw : ws.set q0 (a, .inr (ci, fs.set k v)) = ws') (hdg : decode cc pc = .ok (.putfield idx, 3)) (K : BC p l e R s m args below meth c D A nL Q (pc + 3) lv st ws' cells slots) : BC p l e R s m args below meth c D A nL Q pc lv (v :: .ref a :: st) ws cells slots := fun H locs ls hP hD hS hl => by
  obtain ⟨h1, h2, h3, h4, h5, h6, h7⟩ := hF
  subst hw
  exact va_putF (D := D) (ci := ci) (v := v) (ty := ty) (C := Cn) (T := T) (N := N) hO.1 hO.2.1 hO.2.2.2.2.1 h2 ty0 h6 h7 hO.2.2.2.1 hO.2.2.2.2.2.1 hP hD hS q0 he h1 k h3 (hO.2.2.2.2.1 _ h4) (fun _ h9 => h9) hfin hO.2.2.2.2.2.2.2.2.2.1 hdecl (by rw [h6 k h3, hty]) hn hfit hlen hdg (fun H1 locs1 hP1 hD1 hS1 => K H1 locs1 ls hP1 hD1 hS1 hl)
/-- what the tables say of a class that is made by entry idx of own -/
def NL (own : String) (idx ci : Nat) (Cn : String) (T : u_T) (N : Nat) (ty0 : Nat → FieldType) : Prop := vwCl[ci]? = some (Cn, T, N) ∧ (∀ w ∈ u_ws Cn T N, w ∈ lw_g) ∧ Cond.classLink own idx Cn ∈ lw_g ∧ Cond.instantiable Cn N ∈ lw_g ∧ Cond.initialized Cn ∈ lw_g ∧ (∀ k, k < N → parseFieldDescriptor (T k).2.2.1 = some (ty0 k))
theorem k_new (hO : OKd p R s m args meth c D cy B0 ka va A cc own nL) {Cn : String} {T : u_T} {N : Nat} {ty0 : Nat → FieldType} {idx ci : Nat} {fs : List Value} {w' : Nat → va_W} (hN : NL own idx ci Cn T N ty0) (hfs : ∀ j, j < N → defaultValue (ty0 j) = vp_V fs j) (hw : ∀ q, ws ++ [(q, .inr (ci, fs))] = w' q) (hcells : cells + 1 ≤ R.cells) (hslots : slots + N ≤ R.slots) (hdg : decode cc pc = .ok (.new idx, 3)) (K : ∀ q, BC p l e R s m args below meth c D A nL Q (pc + 3) lv (.ref q :: st) (w' q) (cells + 1) (slots + N)) : BC p l e R s m args below meth c D A nL Q pc lv st ws cells slots := fun H locs ls hP hD hS hl => by
  obtain ⟨h1, h2, h3, h4, h5, h6⟩ := hN
  exact va_new (ci := ci) (fs := fs) (C := Cn) (T := T) (N := N) hO.1 hO.2.1 hO.2.2.2.2.1 h2 ty0 h6 hO.2.2.2.1 (hO.2.2.2.2.1 _ h3) (hO.2.2.2.2.1 _ h4) (hO.2.2.2.2.1 _ h5) hO.2.2.2.2.2.1 hP hD hS hO.2.2.2.2.2.2.1 h1 hfs hcells hslots hdg (fun q H1 hP1 hD1 hS1 => by rw [hw q] at hP1 hD1; exact K q H1 locs ls hP1 hD1 hS1 hl)
theorem k_newaI (hO : OKd p R s m args meth c D cy B0 ka va A cc own nL) {n : Int32} {N : Nat} {w' : Nat → va_W} (harr : Cond.arrayClass .int ∈ lw_g) (hn : ¬ n < 0) (hN : n.toNatClampNeg = N) (hb : N ≤ 5000) (hw : ∀ q, ws ++ [(q, .inl (cy 0, N, .inl (fun _ => 0)))] = w' q) (hcells : cells + 1 ≤ R.cells) (hslots : slots + N ≤ R.slots) (hdg : decode cc pc = .ok (.newarray .int, 2)) (K : ∀ q, BC p l e R s m args below meth c D A nL Q (pc + 2) lv (.ref q :: st) (w' q) (cells + 1) (slots + N)) : BC p l e R s m args below meth c D A nL Q pc lv (.int n :: st) ws cells slots := fun H locs ls hP hD hS hl => by
  refine va_newa (atype := .int) (ty := .int) (a0 := (N, .inl (fun _ => 0))) hO.1 hO.2.1 (hO.2.2.2.2.1 _ harr) rfl hO.2.2.2.2.2.1 hP hD hS hO.2.2.2.2.2.2.1 (fun _ => rfl) hn hN (by show N * 4 ≤ 536870912; omega) hcells hslots hdg (fun q cA H1 hK1 hP1 hD1 hS1 => ?_)
  have h1 : s.vm.findClass ("[" ++ FieldType.int.toString) = some cA := (hK1.2 4 (cA, .int) rfl).2
  have h2 : s.vm.findClass ("[" ++ FieldType.int.toString) = some (cy 0) := (hO.2.2.2.2.2.1.2 0 _ rfl).2
  have e : cA = cy 0 := Option.some.inj (h1.symm.trans h2)
  subst e
  rw [hw q] at hP1 hD1
  exact K q H1 locs ls hP1 hD1 hS1 hl
theorem k_newaJ (hO : OKd p R s m args meth c D cy B0 ka va A cc own nL) {n : Int32} {N : Nat} {w' : Nat → va_W} (harr : Cond.arrayClass .long ∈ lw_g) (hn : ¬ n < 0) (hN : n.toNatClampNeg = N) (hb : N ≤ 5000) (hw : ∀ q, ws ++ [(q, .inl (cy 1, N, .inr (.inl (fun _ => 0))))] = w' q) (hcells : cells + 1 ≤ R.cells) (hslots : slots + N ≤ R.slots) (hdg : decode cc pc = .ok (.newarray .long, 2)) (K : ∀ q, BC p l e R s m args below meth c D A nL Q (pc + 2) lv (.ref q :: st) (w' q) (cells + 1) (slots + N)) : BC p l e R s m args below meth c D A nL Q pc lv (.int n :: st) ws cells slots := fun H locs ls hP hD hS hl => by
  refine va_newa (atype := .long) (ty := .long) (a0 := (N, .inr (.inl (fun _ => 0)))) hO.1 hO.2.1 (hO.2.2.2.2.1 _ harr) rfl hO.2.2.2.2.2.1 hP hD hS hO.2.2.2.2.2.2.1 (fun _ => rfl) hn hN (by show N * 8 ≤ 536870912; omega) hcells hslots hdg (fun q cA H1 hK1 hP1 hD1 hS1 => ?_)
  have h1 : s.vm.findClass ("[" ++ FieldType.long.toString) = some cA := (hK1.2 4 (cA, .long) rfl).2
  have h2 : s.vm.findClass ("[" ++ FieldType.long.toString) = some (cy 1) := (hO.2.2.2.2.2.1.2 1 _ rfl).2
  have e : cA = cy 1 := Option.some.inj (h1.symm.trans h2)
  subst e
  rw [hw q] at hP1 hD1
  exact K q H1 locs ls hP1 hD1 hS1 hl
theorem k_newaZ (hO : OKd p R s m args meth c D cy B0 ka va A cc own nL) {n : Int32} {N : Nat} {w' : Nat → va_W} (harr : Cond.arrayClass .boolean ∈ lw_g) (hn : ¬ n < 0) (hN : n.toNatClampNeg = N) (hb : N ≤ 5000) (hw : ∀ q, ws ++ [(q, .inl (cy 2, N, .inl (fun _ => 0)))] = w' q) (hcells : cells + 1 ≤ R.cells) (hslots : slots + N ≤ R.slots) (hdg : decode cc pc = .ok (.newarray .boolean, 2)) (K : ∀ q, BC p l e R s m args below meth c D A nL Q (pc + 2) lv (.ref q :: st) (w' q) (cells + 1) (slots + N)) : BC p l e R s m args below meth c D A nL Q pc lv (.int n :: st) ws cells slots := fun H locs ls hP hD hS hl => by
  refine va_newa (atype := .boolean) (ty := .boolean) (a0 := (N, .inl (fun _ => 0))) hO.1 hO.2.1 (hO.2.2.2.2.1 _ harr) rfl hO.2.2.2.2.2.1 hP hD hS hO.2.2.2.2.2.2.1 (fun _ => rfl) hn hN (by show N * 1 ≤ 536870912; omega) hcells hslots hdg (fun q cA H1 hK1 hP1 hD1 hS1 => ?_)
  have h1 : s.vm.findClass ("[" ++ FieldType.boolean.toString) = some cA := (hK1.2 4 (cA, .boolean) rfl).2
  have h2 : s.vm.findClass ("[" ++ FieldType.boolean.toString) = some (cy 2) := (hO.2.2.2.2.2.1.2 2 _ rfl).2
  have e : cA = cy 2 := Option.some.inj (h1.symm.trans h2)
  subst e
  rw [hw q] at hP1 hD1
  exact K q H1 locs ls hP1 hD1 hS1 hl
theorem k_grid (hO : OKd p R s m args meth c D cy B0 ka va A cc own nL) {n k : Int32} {N Kk idx : Nat} {w' : Nat → va_W} (hcl : Cond.classLink own idx "[[I" ∈ lw_g) (hn : ¬ n < 0) (hk : ¬ k < 0) (hN : n.toNatClampNeg = N) (hK : k.toNatClampNeg = Kk) (hb1 : N ≤ 1000) (hb2 : Kk ≤ 1000) (hw : ∀ q, ws ++ ((q, .inl (cy 3, N, .inr (.inr (.inr (.inr (fun i => some (q + 1 + i))))))) :: (List.range N).map (fun i => (q + 1 + i, .inl (cy 0, Kk, .inl (fun _ => 0))))) = w' q) (hcells : cells + (1 + N) ≤ R.cells) (hslots : slots + (N + N * Kk) ≤ R.slots) (hdg : decode cc pc = .ok (.multianewarray idx 2, 4)) (K : ∀ q, BC p l e R s m args below meth c D A nL Q (pc + 4) lv (.ref q :: st) (w' q) (cells + 1 + N) (slots + N + N * Kk)) : BC p l e R s m args below meth c D A nL Q pc lv (.int k :: .int n :: st) ws cells slots := fun H locs ls hP hD hS hl => by
  subst hN
  subst hK
  intro T hT X
  obtain ⟨vm₁, XF, step⟩ := ga_step X hO.1 (cy := cy) hO.2.2.2.1 (hO.2.2.2.2.1 _ hcl) (hO.2.2.2.2.2.1.2 3 _ rfl).2 hO.2.2.2.2.2.2.2.2.2.2.1.1 (g := F0 m pc ls (.int k :: .int n :: st)) rfl (by rw [hO.2.1]; exact hdg) rfl hn hk hb1 hb2 hcells hslots
  generalize hF : ga_st (T.setVm vm₁) (cy 3) (cy 0) n.toNatClampNeg k.toNatClampNeg n.toNatClampNeg = F at XF step
  have hTh : (T.setVm vm₁).heap = H := hT
  obtain ⟨f1, f2, -, -⟩ := ga_facts (T.setVm vm₁) (cy 3) (cy 0) n.toNatClampNeg k.toNatClampNeg n.toNatClampNeg
  rw [hF, hTh] at f1 f2
  have hold : ∀ x : Nat, x < H.size → F.heap[x]? = H[x]? := fun x hx => by
    have := ga_old (T.setVm vm₁) (cy 3) (cy 0) n.toNatClampNeg k.toNatClampNeg (a := x) (by rw [hTh]; exact hx) n.toNatClampNeg
    rw [hF, hTh] at this
    exact this
  have hrow : ∀ j : Nat, j < n.toNatClampNeg → F.heap[H.size + 1 + j]? = some (vp_cell (cy 0) (k.toNatClampNeg, .inl (fun _ => 0))) := fun j hj => by
    have := ga_rows (T.setVm vm₁) (cy 3) (cy 0) n.toNatClampNeg k.toNatClampNeg n.toNatClampNeg j hj
    rw [hF, hTh] at this
    rw [this, vp_cell_i, ← arrV_new]
    rfl
  have hout : F.heap[H.size]? = some (vp_cell (cy 3) (n.toNatClampNeg, .inr (.inr (.inr (.inr (fun i => some (H.size + 1 + i))))))) := by
    rw [f2, ga_out_is, vp_cell_q]
    refine congrArg some ?_
    show ({ cls := cy 3, slots := Array.ofFn (n := n.toNatClampNeg) fun j => _, vm := .none } : Cell) = { cls := cy 3, slots := Array.ofFn (n := n.toNatClampNeg) fun j => _, vm := .none }
    congr 2
    funext j
    show va_rf (if (j : Nat) < n.toNatClampNeg then some (H.size + 1 + j) else none) = _
    rw [if_pos j.isLt]
  have hP1 : va_P D vwCl (ws ++ ((H.size, .inl (cy 3, n.toNatClampNeg, .inr (.inr (.inr (.inr (fun i => some (H.size + 1 + i))))))) :: (List.range n.toNatClampNeg).map (fun i => (H.size + 1 + i, .inl (cy 0, k.toNatClampNeg, .inl (fun _ => 0)))))) F.heap := by
    refine va_P.app (hP.kept (fun k9 x hx => hold x.1 ((hP k9 x hx).lt))) (fun k9 x hx => ?_)
    rcases List.mem_cons.mp (List.mem_of_getElem? hx) with e1 | e1
    · subst e1; exact hout
    · obtain ⟨i, hi, rfl⟩ := List.mem_map.mp e1
      exact hrow i (List.mem_range.mp hi)
  have hat : ∀ (j : Nat) (x : Nat × va_E), (((H.size, .inl (cy 3, n.toNatClampNeg, .inr (.inr (.inr (.inr (fun i => some (H.size + 1 + i))))))) :: (List.range n.toNatClampNeg).map (fun i => (H.size + 1 + i, .inl (cy 0, k.toNatClampNeg, .inl (fun _ => 0))))) : va_W)[j]? = some x → x.1 = H.size + j := fun j x hx => by
    cases j with
    | zero => cases hx; rfl
    | succ j =>
      rw [List.getElem?_cons_succ, List.getElem?_map] at hx
      by_cases hj : j < n.toNatClampNeg
      · rw [List.getElem?_range hj] at hx
        cases hx
        show H.size + 1 + j = _
        omega
      · rw [List.getElem?_eq_none (by rw [List.length_range]; omega)] at hx
        cases hx
  have hD1 : va_D A (ws ++ ((H.size, .inl (cy 3, n.toNatClampNeg, .inr (.inr (.inr (.inr (fun i => some (H.size + 1 + i))))))) :: (List.range n.toNatClampNeg).map (fun i => (H.size + 1 + i, .inl (cy 0, k.toNatClampNeg, .inl (fun _ => 0)))))) := by
    refine va_D.app hD ⟨fun i j x y hx hy hxy => ?_, fun k9 x hx => ?_⟩ (fun i j x y hx hy hxy => ?_)
    · have h1 := hat i x hx
      have h2 := hat j y hy
      omega
    · rw [hat k9 x hx]
      exact hO.2.2.2.2.2.2.1 _ (by have := hS.1; omega)
    · have h1 := (hP i x hx).lt
      have h2 := hat j y hy
      omega
  have hS1 : va_S A s.heap F.heap locs := ⟨by rw [f1]; have := hS.1; omega, fun x h1 h2 => (hold x (Nat.lt_of_lt_of_le h1 hS.1)).trans (hS.2.1 x h1 h2), hS.2.2⟩
  rw [hw H.size] at hP1 hD1
  obtain ⟨t, a1, b1⟩ := K H.size F.heap locs ls hP1 hD1 hS1 hl F rfl XF
  refine ⟨t, step t ?_, b1⟩
  have e9 : T.heap.size = H.size := by rw [hT]
  rw [e9]
  exact a1
theorem CC_blind {av : List Value} {w0 : va_W} {sz : Nat} : FrameBlind (va_Pc av (fun U => U.heap.size = sz ∧ va_P D vwCl w0 U.heap ∧ va_K D vwCl (tyl cy) U ∧ va_D (fun _ => True) w0 ∧ EX cy B0 ka va U ∧ ∀ q, va_A w0 sz q → B0 ≤ q)) := fun a U g mk q => by
  obtain ⟨q0, q1, qP, qK, qD, qA, qB⟩ := q
  exact ⟨q0, q1, qP, va_K.moved (u := U) (U := U.calling g mk a) (Vm.Alike.refl U.vm) qK, qD, EX.call g mk a qA, qB⟩
theorem k_callI (hO : OKd p R s m args meth c D cy B0 ka va A cc own nL) {y : MethodName} {bytes : ByteArray} {maxL n idx b mc ms : Nat} {R2 : Room} {As : List Value} {w0 : va_W} {w1 w' : (Nat → Nat) → va_W} (isC isR : List Nat) {wr : va_W} (hM : MD y bytes maxL none n) (hin : Cond.instanceMethod y ∈ lw_g) (hnm : y.name = "<init>") (hlk : Cond.methodLink own idx y ∈ lw_g) (hC : CC l D cy B0 ka va y bytes maxL R2 (.ref b :: As) w0 w1 mc ms) (hrc : R2.cells = mc) (hrs : R2.slots = ms) (hf : R2.frames + 1 ≤ R.frames) (hlo : 8 + (maxL + 11) + R2.locals ≤ R.locals) (hn : As.length = n) {stk : List Value} (hst : stk = As.reverse ++ .ref b :: st) (hroom : (st.map fun v => v.category).sum ≤ 8) (h0 : isC.map (fun i => ws[i]?) = w0.map some) (hR : isR.map (fun i => ws[i]?) = wr.map some) (hnd : va_nd isR = true) (hnd0 : va_nd isC = true) (hdis : ∀ i ∈ isR, i ∉ isC) (hw : ∀ u, wr ++ w1 u = w' u) (hcells : cells + mc ≤ R.cells) (hslots : slots + ms ≤ R.slots) (hdg : decode cc pc = .ok (.invokespecial idx, 3)) (K : ∀ u : Nat → Nat, BC p l e R s m args below meth c D A nL Q (pc + 3) lv st (w' u) (cells + mc) (slots + ms)) : BC p l e R s m args below meth c D A nL Q pc lv stk ws cells slots := fun H locs ls hP hD hS hl => by
  subst hst
  have hP0 : va_P D vwCl w0 H := fun k q hk => by
    have h9 : (isC.map (fun i => ws[i]?))[k]? = some (some q) := by rw [h0, List.getElem?_map, hk]; rfl
    rw [List.getElem?_map] at h9
    cases hi : isC[k]? with
    | none => rw [hi] at h9; cases h9
    | some i => rw [hi] at h9; exact hP i q (Option.some.inj h9)
  have hD0 : va_D A w0 := hD.sub isC hnd0 h0
  have hFc := va_free (wc := w0) hD hS hO.2.2.2.2.2.2.1 isC h0
  refine va_callv (va_runI (As := As) (rest := st) ⟨hO.1, hO.2.1, hO.2.2.1, hO.2.2.2.1, hO.2.2.2.2.1⟩ (hC H.size) ⟨callB_of n hO.2.2.2.2.1 (gd_all hM) rfl hrc hrs (hO.2.2.2.2.1 _ hM.2.1) (hO.2.2.2.2.1 _ hlk) hM.2.2.1 ⟨hf, hlo⟩, hnm, hO.2.2.2.2.1 _ hin⟩ ⟨CC_blind, fun U hU hw9 => ⟨rfl, by rw [hU], by rw [hU]; exact hP0, va_K.moved hw9.alike hO.2.2.2.2.2.1, hD0.weaken (fun _ _ _ _ => trivial), EX.st hw9 (fun a9 h9 h8 => by rw [hU]; exact hS.2.1 a9 h9 (fun q => h8 (hO.2.2.2.2.2.2.2.2.2.2.2 a9 q))) hO.2.2.2.2.2.2.2.2.2.2.1, fun q h9 => hO.2.2.2.2.2.2.2.2.2.2.2 q (hFc q h9)⟩⟩ rfl hn hl.1 rfl (lv_room hroom) hdg ⟨hcells, hslots⟩) hS (fun q _ h => hFc q h) hFc (fun u t H1 locs1 ht hvm hw9 hB hz1 hk1 hS1 => ?_)
  obtain ⟨hP1, hK1, hD1⟩ := hB
  rw [ht] at hP1
  obtain ⟨hP2, hD2⟩ := va_join (wr := wr) (w1 := w1 u) hP hD isC isR h0 hR hnd hdis hk1 hFc hP1 hD1
  rw [hw u] at hP2 hD2
  exact K u H1 locs1 ls hP2 hD2 hS1 hl
theorem k_callIN (hO : OKd p R s m args meth c D cy B0 ka va A cc own nL) {host : String} {y : MethodName} {bytes : ByteArray} {maxL n idx b mc ms : Nat} {R2 : Room} {As : List Value} {w0 : va_W} {w1 w' : (Nat → Nat) → va_W} (isC isR : List Nat) {wr : va_W} (hM : MD y bytes maxL none n) (hin : Cond.instanceMethod y ∈ lw_g) (hnm : y.name = "<init>") (hlk : Cond.methodLinkNest own idx y host ∈ nestW) (hC : CC l D cy B0 ka va y bytes maxL R2 (.ref b :: As) w0 w1 mc ms) (hrc : R2.cells = mc) (hrs : R2.slots = ms) (hf : R2.frames + 1 ≤ R.frames) (hlo : 8 + (maxL + 11) + R2.locals ≤ R.locals) (hn : As.length = n) {stk : List Value} (hst : stk = As.reverse ++ .ref b :: st) (hroom : (st.map fun v => v.category).sum ≤ 8) (h0 : isC.map (fun i => ws[i]?) = w0.map some) (hR : isR.map (fun i => ws[i]?) = wr.map some) (hnd : va_nd isR = true) (hnd0 : va_nd isC = true) (hdis : ∀ i ∈ isR, i ∉ isC) (hw : ∀ u, wr ++ w1 u = w' u) (hcells : cells + mc ≤ R.cells) (hslots : slots + ms ≤ R.slots) (hdg : decode cc pc = .ok (.invokespecial idx, 3)) (K : ∀ u : Nat → Nat, BC p l e R s m args below meth c D A nL Q (pc + 3) lv st (w' u) (cells + mc) (slots + ms)) : BC p l e R s m args below meth c D A nL Q pc lv stk ws cells slots := fun H locs ls hP hD hS hl => by
  subst hst
  have hP0 : va_P D vwCl w0 H := fun k q hk => by
    have h9 : (isC.map (fun i => ws[i]?))[k]? = some (some q) := by rw [h0, List.getElem?_map, hk]; rfl
    rw [List.getElem?_map] at h9
    cases hi : isC[k]? with
    | none => rw [hi] at h9; cases h9
    | some i => rw [hi] at h9; exact hP i q (Option.some.inj h9)
  have hD0 : va_D A w0 := hD.sub isC hnd0 h0
  have hFc := va_free (wc := w0) hD hS hO.2.2.2.2.2.2.1 isC h0
  refine va_callv (va_runIN (As := As) (rest := st) ⟨hO.1, hO.2.1, hO.2.2.1, hO.2.2.2.1, hO.2.2.2.2.1⟩ (hC H.size) ⟨va_cnB n hO.2.2.2.2.1 (gd_all hM) rfl hrc hrs (hO.2.2.2.2.2.2.2.2.2.2.1.2.1 _ hlk) (hO.2.2.2.2.1 _ hM.2.1) hM.2.2.1 ⟨hf, hlo⟩, hnm, hO.2.2.2.2.1 _ hin⟩ ⟨CC_blind, fun U hU hw9 => ⟨rfl, by rw [hU], by rw [hU]; exact hP0, va_K.moved hw9.alike hO.2.2.2.2.2.1, hD0.weaken (fun _ _ _ _ => trivial), EX.st hw9 (fun a9 h9 h8 => by rw [hU]; exact hS.2.1 a9 h9 (fun q => h8 (hO.2.2.2.2.2.2.2.2.2.2.2 a9 q))) hO.2.2.2.2.2.2.2.2.2.2.1, fun q h9 => hO.2.2.2.2.2.2.2.2.2.2.2 q (hFc q h9)⟩⟩ rfl hn hl.1 rfl (lv_room hroom) hdg ⟨hcells, hslots⟩) hS (fun q _ h => hFc q h) hFc (fun u t H1 locs1 ht hvm hw9 hB hz1 hk1 hS1 => ?_)
  obtain ⟨hP1, hK1, hD1⟩ := hB
  rw [ht] at hP1
  obtain ⟨hP2, hD2⟩ := va_join (wr := wr) (w1 := w1 u) hP hD isC isR h0 hR hnd hdis hk1 hFc hP1 hD1
  rw [hw u] at hP2 hD2
  exact K u H1 locs1 ls hP2 hD2 hS1 hl
theorem k_istore_n (hO : OKd p R s m args meth c D cy B0 ka va A cc own nL) {k : Fin 4} {i : Nat} {x : Int32} {lv' : List (Nat × Value)} (hdg : decode cc pc = .ok (.istore_n k, 1)) (hi : (k : Nat) = i) (hn : i < nL) (hlv : (i, Value.int x) :: lv.filter (fun q => !(q.1 == i) && !(q.1 + 1 == i && q.2.category == 2)) = lv') (K : BC p l e R s m args below meth c D A nL Q (pc + 1) lv' st ws cells slots) : BC p l e R s m args below meth c D A nL Q pc lv (.int x :: st) ws cells slots := fun H locs ls hP hD hS hl => lv_istore_n hO.1 hO.2.1 hdg hi hl hn hlv (fun ls' hl' => K H locs ls' hP hD hS hl')
theorem k_istore (hO : OKd p R s m args meth c D cy B0 ka va A cc own nL) {i : Nat} {x : Int32} {lv' : List (Nat × Value)} (hdg : decode cc pc = .ok (.istore i, 2)) (hn : i < nL) (hlv : (i, Value.int x) :: lv.filter (fun q => !(q.1 == i) && !(q.1 + 1 == i && q.2.category == 2)) = lv') (K : BC p l e R s m args below meth c D A nL Q (pc + 2) lv' st ws cells slots) : BC p l e R s m args below meth c D A nL Q pc lv (.int x :: st) ws cells slots := fun H locs ls hP hD hS hl => lv_istore hO.1 hO.2.1 hdg hl hn hlv (fun ls' hl' => K H locs ls' hP hD hS hl')
theorem k_iload (hO : OKd p R s m args meth c D cy B0 ka va A cc own nL) {i : Nat} {x : Int32} (hdg : decode cc pc = .ok (.iload i, 2)) (j : Nat) (hj : lv[j]? = some (i, .int x)) (K : BC p l e R s m args below meth c D A nL Q (pc + 2) lv (.int x :: st) ws cells slots) : BC p l e R s m args below meth c D A nL Q pc lv st ws cells slots := fun H locs ls hP hD hS hl => lv_iload hO.1 hO.2.1 hdg (lv_at hl j hj) (K H locs ls hP hD hS hl)
theorem k_astore_n (hO : OKd p R s m args meth c D cy B0 ka va A cc own nL) {k : Fin 4} {i : Nat} {x : Nat} {lv' : List (Nat × Value)} (hdg : decode cc pc = .ok (.astore_n k, 1)) (hi : (k : Nat) = i) (hn : i < nL) (hlv : (i, Value.ref x) :: lv.filter (fun q => !(q.1 == i) && !(q.1 + 1 == i && q.2.category == 2)) = lv') (K : BC p l e R s m args below meth c D A nL Q (pc + 1) lv' st ws cells slots) : BC p l e R s m args below meth c D A nL Q pc lv (.ref x :: st) ws cells slots := fun H locs ls hP hD hS hl => lv_astore_n hO.1 hO.2.1 hdg hi hl hn hlv (fun ls' hl' => K H locs ls' hP hD hS hl')
theorem k_astore (hO : OKd p R s m args meth c D cy B0 ka va A cc own nL) {i : Nat} {x : Nat} {lv' : List (Nat × Value)} (hdg : decode cc pc = .ok (.astore i, 2)) (hn : i < nL) (hlv : (i, Value.ref x) :: lv.filter (fun q => !(q.1 == i) && !(q.1 + 1 == i && q.2.category == 2)) = lv') (K : BC p l e R s m args below meth c D A nL Q (pc + 2) lv' st ws cells slots) : BC p l e R s m args below meth c D A nL Q pc lv (.ref x :: st) ws cells slots := fun H locs ls hP hD hS hl => lv_astore hO.1 hO.2.1 hdg hl hn hlv (fun ls' hl' => K H locs ls' hP hD hS hl')
theorem k_aload (hO : OKd p R s m args meth c D cy B0 ka va A cc own nL) {i : Nat} {x : Nat} (hdg : decode cc pc = .ok (.aload i, 2)) (j : Nat) (hj : lv[j]? = some (i, .ref x)) (K : BC p l e R s m args below meth c D A nL Q (pc + 2) lv (.ref x :: st) ws cells slots) : BC p l e R s m args below meth c D A nL Q pc lv st ws cells slots := fun H locs ls hP hD hS hl => lv_aload hO.1 hO.2.1 hdg (lv_at hl j hj) (K H locs ls hP hD hS hl)
theorem k_iinc (hO : OKd p R s m args meth c D cy B0 ka va A cc own nL) {i : Nat} {n : Int} {x v : Int32} {lv' : List (Nat × Value)} (hdg : decode cc pc = .ok (.iinc i n, 3)) (j : Nat) (hj : lv[j]? = some (i, .int x)) (hv : x + Int32.ofInt n = v) (hn : i < nL) (hlv : (i, Value.int v) :: lv.filter (fun q => !(q.1 == i) && !(q.1 + 1 == i && q.2.category == 2)) = lv') (K : BC p l e R s m args below meth c D A nL Q (pc + 3) lv' st ws cells slots) : BC p l e R s m args below meth c D A nL Q pc lv st ws cells slots := fun H locs ls hP hD hS hl => lv_iinc hO.1 hO.2.1 hdg hl hj hv hn hlv (fun ls' hl' => K H locs ls' hP hD hS hl')
theorem k_goto (hO : OKd p R s m args meth c D cy B0 ka va A cc own nL) {off : Int} {tgt : Nat} (hdg : decode cc pc = .ok (.goto off, 3)) (ht : (pc : Int) + off = (tgt : Int)) (K : BC p l e R s m args below meth c D A nL Q tgt lv st ws cells slots) : BC p l e R s m args below meth c D A nL Q pc lv st ws cells slots := fun H locs ls hP hD hS hl => lv_goto hO.1 hO.2.1 hdg ht (K H locs ls hP hD hS hl)
theorem k_iadd (hO : OKd p R s m args meth c D cy B0 ka va A cc own nL) {x y v : Int32} (hdg : decode cc pc = .ok (.iadd, 1)) (hv : x + y = v) (K : BC p l e R s m args below meth c D A nL Q (pc + 1) lv (.int v :: st) ws cells slots) : BC p l e R s m args below meth c D A nL Q pc lv (.int y :: .int x :: st) ws cells slots := fun H locs ls hP hD hS hl => lv_iadd hO.1 hO.2.1 hdg (by rw [hv]; exact K H locs ls hP hD hS hl)
theorem k_isub (hO : OKd p R s m args meth c D cy B0 ka va A cc own nL) {x y v : Int32} (hdg : decode cc pc = .ok (.isub, 1)) (hv : x - y = v) (K : BC p l e R s m args below meth c D A nL Q (pc + 1) lv (.int v :: st) ws cells slots) : BC p l e R s m args below meth c D A nL Q pc lv (.int y :: .int x :: st) ws cells slots := fun H locs ls hP hD hS hl => lv_isub hO.1 hO.2.1 hdg (by rw [hv]; exact K H locs ls hP hD hS hl)
theorem k_imul (hO : OKd p R s m args meth c D cy B0 ka va A cc own nL) {x y v : Int32} (hdg : decode cc pc = .ok (.imul, 1)) (hv : x * y = v) (K : BC p l e R s m args below meth c D A nL Q (pc + 1) lv (.int v :: st) ws cells slots) : BC p l e R s m args below meth c D A nL Q pc lv (.int y :: .int x :: st) ws cells slots := fun H locs ls hP hD hS hl => lv_imul hO.1 hO.2.1 hdg (by rw [hv]; exact K H locs ls hP hD hS hl)
theorem k_iand (hO : OKd p R s m args meth c D cy B0 ka va A cc own nL) {x y v : Int32} (hdg : decode cc pc = .ok (.iand, 1)) (hv : x &&& y = v) (K : BC p l e R s m args below meth c D A nL Q (pc + 1) lv (.int v :: st) ws cells slots) : BC p l e R s m args below meth c D A nL Q pc lv (.int y :: .int x :: st) ws cells slots := fun H locs ls hP hD hS hl => lv_iand hO.1 hO.2.1 hdg (by rw [hv]; exact K H locs ls hP hD hS hl)
theorem k_if_eqT (hO : OKd p R s m args meth c D cy B0 ka va A cc own nL) {x : Int32} {off : Int} {tgt : Nat} (hdg : decode cc pc = .ok (.ifCond .eq off, 3)) (ht : (pc : Int) + off = (tgt : Int)) (h : x = 0) (K : BC p l e R s m args below meth c D A nL Q tgt lv st ws cells slots) : BC p l e R s m args below meth c D A nL Q pc lv (.int x :: st) ws cells slots := fun H locs ls hP hD hS hl => lv_if_eq hO.1 hO.2.1 hdg ht (fun _ => K H locs ls hP hD hS hl) (fun h9 => absurd h (by first | exact h9 | exact fun q => q h9))
theorem k_if_eqF (hO : OKd p R s m args meth c D cy B0 ka va A cc own nL) {x : Int32} {off : Int} {tgt : Nat} (hdg : decode cc pc = .ok (.ifCond .eq off, 3)) (ht : (pc : Int) + off = (tgt : Int)) (h : ¬ x = 0) (K : BC p l e R s m args below meth c D A nL Q (pc + 3) lv st ws cells slots) : BC p l e R s m args below meth c D A nL Q pc lv (.int x :: st) ws cells slots := fun H locs ls hP hD hS hl => lv_if_eq hO.1 hO.2.1 hdg ht (fun h9 => absurd h (by first | exact h9 | exact fun q => q h9)) (fun _ => K H locs ls hP hD hS hl)
theorem k_icmp_eqT (hO : OKd p R s m args meth c D cy B0 ka va A cc own nL) {x y : Int32} {off : Int} {tgt : Nat} (hdg : decode cc pc = .ok (.if_icmp .eq off, 3)) (ht : (pc : Int) + off = (tgt : Int)) (h : x = y) (K : BC p l e R s m args below meth c D A nL Q tgt lv st ws cells slots) : BC p l e R s m args below meth c D A nL Q pc lv (.int y :: .int x :: st) ws cells slots := fun H locs ls hP hD hS hl => lv_icmp_eq hO.1 hO.2.1 hdg ht (fun _ => K H locs ls hP hD hS hl) (fun h9 => absurd h (by first | exact h9 | exact fun q => q h9))
theorem k_icmp_eqF (hO : OKd p R s m args meth c D cy B0 ka va A cc own nL) {x y : Int32} {off : Int} {tgt : Nat} (hdg : decode cc pc = .ok (.if_icmp .eq off, 3)) (ht : (pc : Int) + off = (tgt : Int)) (h : ¬ x = y) (K : BC p l e R s m args below meth c D A nL Q (pc + 3) lv st ws cells slots) : BC p l e R s m args below meth c D A nL Q pc lv (.int y :: .int x :: st) ws cells slots := fun H locs ls hP hD hS hl => lv_icmp_eq hO.1 hO.2.1 hdg ht (fun h9 => absurd h (by first | exact h9 | exact fun q => q h9)) (fun _ => K H locs ls hP hD hS hl)
theorem k_if_neT (hO : OKd p R s m args meth c D cy B0 ka va A cc own nL) {x : Int32} {off : Int} {tgt : Nat} (hdg : decode cc pc = .ok (.ifCond .ne off, 3)) (ht : (pc : Int) + off = (tgt : Int)) (h : ¬ x = 0) (K : BC p l e R s m args below meth c D A nL Q tgt lv st ws cells slots) : BC p l e R s m args below meth c D A nL Q pc lv (.int x :: st) ws cells slots := fun H locs ls hP hD hS hl => lv_if_ne hO.1 hO.2.1 hdg ht (fun _ => K H locs ls hP hD hS hl) (fun h9 => absurd h (by first | exact h9 | exact fun q => q h9))
theorem k_if_neF (hO : OKd p R s m args meth c D cy B0 ka va A cc own nL) {x : Int32} {off : Int} {tgt : Nat} (hdg : decode cc pc = .ok (.ifCond .ne off, 3)) (ht : (pc : Int) + off = (tgt : Int)) (h : x = 0) (K : BC p l e R s m args below meth c D A nL Q (pc + 3) lv st ws cells slots) : BC p l e R s m args below meth c D A nL Q pc lv (.int x :: st) ws cells slots := fun H locs ls hP hD hS hl => lv_if_ne hO.1 hO.2.1 hdg ht (fun h9 => absurd h (by first | exact h9 | exact fun q => q h9)) (fun _ => K H locs ls hP hD hS hl)
theorem k_icmp_neT (hO : OKd p R s m args meth c D cy B0 ka va A cc own nL) {x y : Int32} {off : Int} {tgt : Nat} (hdg : decode cc pc = .ok (.if_icmp .ne off, 3)) (ht : (pc : Int) + off = (tgt : Int)) (h : ¬ x = y) (K : BC p l e R s m args below meth c D A nL Q tgt lv st ws cells slots) : BC p l e R s m args below meth c D A nL Q pc lv (.int y :: .int x :: st) ws cells slots := fun H locs ls hP hD hS hl => lv_icmp_ne hO.1 hO.2.1 hdg ht (fun _ => K H locs ls hP hD hS hl) (fun h9 => absurd h (by first | exact h9 | exact fun q => q h9))
theorem k_icmp_neF (hO : OKd p R s m args meth c D cy B0 ka va A cc own nL) {x y : Int32} {off : Int} {tgt : Nat} (hdg : decode cc pc = .ok (.if_icmp .ne off, 3)) (ht : (pc : Int) + off = (tgt : Int)) (h : x = y) (K : BC p l e R s m args below meth c D A nL Q (pc + 3) lv st ws cells slots) : BC p l e R s m args below meth c D A nL Q pc lv (.int y :: .int x :: st) ws cells slots := fun H locs ls hP hD hS hl => lv_icmp_ne hO.1 hO.2.1 hdg ht (fun h9 => absurd h (by first | exact h9 | exact fun q => q h9)) (fun _ => K H locs ls hP hD hS hl)
theorem k_if_ltT (hO : OKd p R s m args meth c D cy B0 ka va A cc own nL) {x : Int32} {off : Int} {tgt : Nat} (hdg : decode cc pc = .ok (.ifCond .lt off, 3)) (ht : (pc : Int) + off = (tgt : Int)) (h : x < 0) (K : BC p l e R s m args below meth c D A nL Q tgt lv st ws cells slots) : BC p l e R s m args below meth c D A nL Q pc lv (.int x :: st) ws cells slots := fun H locs ls hP hD hS hl => lv_if_lt hO.1 hO.2.1 hdg ht (fun _ => K H locs ls hP hD hS hl) (fun h9 => absurd h (by first | exact h9 | exact fun q => q h9))
theorem k_if_ltF (hO : OKd p R s m args meth c D cy B0 ka va A cc own nL) {x : Int32} {off : Int} {tgt : Nat} (hdg : decode cc pc = .ok (.ifCond .lt off, 3)) (ht : (pc : Int) + off = (tgt : Int)) (h : ¬ x < 0) (K : BC p l e R s m args below meth c D A nL Q (pc + 3) lv st ws cells slots) : BC p l e R s m args below meth c D A nL Q pc lv (.int x :: st) ws cells slots := fun H locs ls hP hD hS hl => lv_if_lt hO.1 hO.2.1 hdg ht (fun h9 => absurd h (by first | exact h9 | exact fun q => q h9)) (fun _ => K H locs ls hP hD hS hl)
theorem k_icmp_ltT (hO : OKd p R s m args meth c D cy B0 ka va A cc own nL) {x y : Int32} {off : Int} {tgt : Nat} (hdg : decode cc pc = .ok (.if_icmp .lt off, 3)) (ht : (pc : Int) + off = (tgt : Int)) (h : x < y) (K : BC p l e R s m args below meth c D A nL Q tgt lv st ws cells slots) : BC p l e R s m args below meth c D A nL Q pc lv (.int y :: .int x :: st) ws cells slots := fun H locs ls hP hD hS hl => lv_icmp_lt hO.1 hO.2.1 hdg ht (fun _ => K H locs ls hP hD hS hl) (fun h9 => absurd h (by first | exact h9 | exact fun q => q h9))
theorem k_icmp_ltF (hO : OKd p R s m args meth c D cy B0 ka va A cc own nL) {x y : Int32} {off : Int} {tgt : Nat} (hdg : decode cc pc = .ok (.if_icmp .lt off, 3)) (ht : (pc : Int) + off = (tgt : Int)) (h : ¬ x < y) (K : BC p l e R s m args below meth c D A nL Q (pc + 3) lv st ws cells slots) : BC p l e R s m args below meth c D A nL Q pc lv (.int y :: .int x :: st) ws cells slots := fun H locs ls hP hD hS hl => lv_icmp_lt hO.1 hO.2.1 hdg ht (fun h9 => absurd h (by first | exact h9 | exact fun q => q h9)) (fun _ => K H locs ls hP hD hS hl)
theorem k_if_geT (hO : OKd p R s m args meth c D cy B0 ka va A cc own nL) {x : Int32} {off : Int} {tgt : Nat} (hdg : decode cc pc = .ok (.ifCond .ge off, 3)) (ht : (pc : Int) + off = (tgt : Int)) (h : 0 ≤ x) (K : BC p l e R s m args below meth c D A nL Q tgt lv st ws cells slots) : BC p l e R s m args below meth c D A nL Q pc lv (.int x :: st) ws cells slots := fun H locs ls hP hD hS hl => lv_if_ge hO.1 hO.2.1 hdg ht (fun _ => K H locs ls hP hD hS hl) (fun h9 => absurd h (by first | exact h9 | exact fun q => q h9))
theorem k_if_geF (hO : OKd p R s m args meth c D cy B0 ka va A cc own nL) {x : Int32} {off : Int} {tgt : Nat} (hdg : decode cc pc = .ok (.ifCond .ge off, 3)) (ht : (pc : Int) + off = (tgt : Int)) (h : ¬ 0 ≤ x) (K : BC p l e R s m args below meth c D A nL Q (pc + 3) lv st ws cells slots) : BC p l e R s m args below meth c D A nL Q pc lv (.int x :: st) ws cells slots := fun H locs ls hP hD hS hl => lv_if_ge hO.1 hO.2.1 hdg ht (fun h9 => absurd h (by first | exact h9 | exact fun q => q h9)) (fun _ => K H locs ls hP hD hS hl)
theorem k_icmp_geT (hO : OKd p R s m args meth c D cy B0 ka va A cc own nL) {x y : Int32} {off : Int} {tgt : Nat} (hdg : decode cc pc = .ok (.if_icmp .ge off, 3)) (ht : (pc : Int) + off = (tgt : Int)) (h : y ≤ x) (K : BC p l e R s m args below meth c D A nL Q tgt lv st ws cells slots) : BC p l e R s m args below meth c D A nL Q pc lv (.int y :: .int x :: st) ws cells slots := fun H locs ls hP hD hS hl => lv_icmp_ge hO.1 hO.2.1 hdg ht (fun _ => K H locs ls hP hD hS hl) (fun h9 => absurd h (by first | exact h9 | exact fun q => q h9))
theorem k_icmp_geF (hO : OKd p R s m args meth c D cy B0 ka va A cc own nL) {x y : Int32} {off : Int} {tgt : Nat} (hdg : decode cc pc = .ok (.if_icmp .ge off, 3)) (ht : (pc : Int) + off = (tgt : Int)) (h : ¬ y ≤ x) (K : BC p l e R s m args below meth c D A nL Q (pc + 3) lv st ws cells slots) : BC p l e R s m args below meth c D A nL Q pc lv (.int y :: .int x :: st) ws cells slots := fun H locs ls hP hD hS hl => lv_icmp_ge hO.1 hO.2.1 hdg ht (fun h9 => absurd h (by first | exact h9 | exact fun q => q h9)) (fun _ => K H locs ls hP hD hS hl)
theorem k_if_gtT (hO : OKd p R s m args meth c D cy B0 ka va A cc own nL) {x : Int32} {off : Int} {tgt : Nat} (hdg : decode cc pc = .ok (.ifCond .gt off, 3)) (ht : (pc : Int) + off = (tgt : Int)) (h : 0 < x) (K : BC p l e R s m args below meth c D A nL Q tgt lv st ws cells slots) : BC p l e R s m args below meth c D A nL Q pc lv (.int x :: st) ws cells slots := fun H locs ls hP hD hS hl => lv_if_gt hO.1 hO.2.1 hdg ht (fun _ => K H locs ls hP hD hS hl) (fun h9 => absurd h (by first | exact h9 | exact fun q => q h9))
theorem k_if_gtF (hO : OKd p R s m args meth c D cy B0 ka va A cc own nL) {x : Int32} {off : Int} {tgt : Nat} (hdg : decode cc pc = .ok (.ifCond .gt off, 3)) (ht : (pc : Int) + off = (tgt : Int)) (h : ¬ 0 < x) (K : BC p l e R s m args below meth c D A nL Q (pc + 3) lv st ws cells slots) : BC p l e R s m args below meth c D A nL Q pc lv (.int x :: st) ws cells slots := fun H locs ls hP hD hS hl => lv_if_gt hO.1 hO.2.1 hdg ht (fun h9 => absurd h (by first | exact h9 | exact fun q => q h9)) (fun _ => K H locs ls hP hD hS hl)
theorem k_icmp_gtT (hO : OKd p R s m args meth c D cy B0 ka va A cc own nL) {x y : Int32} {off : Int} {tgt : Nat} (hdg : decode cc pc = .ok (.if_icmp .gt off, 3)) (ht : (pc : Int) + off = (tgt : Int)) (h : y < x) (K : BC p l e R s m args below meth c D A nL Q tgt lv st ws cells slots) : BC p l e R s m args below meth c D A nL Q pc lv (.int y :: .int x :: st) ws cells slots := fun H locs ls hP hD hS hl => lv_icmp_gt hO.1 hO.2.1 hdg ht (fun _ => K H locs ls hP hD hS hl) (fun h9 => absurd h (by first | exact h9 | exact fun q => q h9))
theorem k_icmp_gtF (hO : OKd p R s m args meth c D cy B0 ka va A cc own nL) {x y : Int32} {off : Int} {tgt : Nat} (hdg : decode cc pc = .ok (.if_icmp .gt off, 3)) (ht : (pc : Int) + off = (tgt : Int)) (h : ¬ y < x) (K : BC p l e R s m args below meth c D A nL Q (pc + 3) lv st ws cells slots) : BC p l e R s m args below meth c D A nL Q pc lv (.int y :: .int x :: st) ws cells slots := fun H locs ls hP hD hS hl => lv_icmp_gt hO.1 hO.2.1 hdg ht (fun h9 => absurd h (by first | exact h9 | exact fun q => q h9)) (fun _ => K H locs ls hP hD hS hl)
theorem k_if_leT (hO : OKd p R s m args meth c D cy B0 ka va A cc own nL) {x : Int32} {off : Int} {tgt : Nat} (hdg : decode cc pc = .ok (.ifCond .le off, 3)) (ht : (pc : Int) + off = (tgt : Int)) (h : x ≤ 0) (K : BC p l e R s m args below meth c D A nL Q tgt lv st ws cells slots) : BC p l e R s m args below meth c D A nL Q pc lv (.int x :: st) ws cells slots := fun H locs ls hP hD hS hl => lv_if_le hO.1 hO.2.1 hdg ht (fun _ => K H locs ls hP hD hS hl) (fun h9 => absurd h (by first | exact h9 | exact fun q => q h9))
theorem k_if_leF (hO : OKd p R s m args meth c D cy B0 ka va A cc own nL) {x : Int32} {off : Int} {tgt : Nat} (hdg : decode cc pc = .ok (.ifCond .le off, 3)) (ht : (pc : Int) + off = (tgt : Int)) (h : ¬ x ≤ 0) (K : BC p l e R s m args below meth c D A nL Q (pc + 3) lv st ws cells slots) : BC p l e R s m args below meth c D A nL Q pc lv (.int x :: st) ws cells slots := fun H locs ls hP hD hS hl => lv_if_le hO.1 hO.2.1 hdg ht (fun h9 => absurd h (by first | exact h9 | exact fun q => q h9)) (fun _ => K H locs ls hP hD hS hl)
theorem k_icmp_leT (hO : OKd p R s m args meth c D cy B0 ka va A cc own nL) {x y : Int32} {off : Int} {tgt : Nat} (hdg : decode cc pc = .ok (.if_icmp .le off, 3)) (ht : (pc : Int) + off = (tgt : Int)) (h : x ≤ y) (K : BC p l e R s m args below meth c D A nL Q tgt lv st ws cells slots) : BC p l e R s m args below meth c D A nL Q pc lv (.int y :: .int x :: st) ws cells slots := fun H locs ls hP hD hS hl => lv_icmp_le hO.1 hO.2.1 hdg ht (fun _ => K H locs ls hP hD hS hl) (fun h9 => absurd h (by first | exact h9 | exact fun q => q h9))
theorem k_icmp_leF (hO : OKd p R s m args meth c D cy B0 ka va A cc own nL) {x y : Int32} {off : Int} {tgt : Nat} (hdg : decode cc pc = .ok (.if_icmp .le off, 3)) (ht : (pc : Int) + off = (tgt : Int)) (h : ¬ x ≤ y) (K : BC p l e R s m args below meth c D A nL Q (pc + 3) lv st ws cells slots) : BC p l e R s m args below meth c D A nL Q pc lv (.int y :: .int x :: st) ws cells slots := fun H locs ls hP hD hS hl => lv_icmp_le hO.1 hO.2.1 hdg ht (fun h9 => absurd h (by first | exact h9 | exact fun q => q h9)) (fun _ => K H locs ls hP hD hS hl)
theorem k_iast (hO : OKd p R s m args meth c D cy B0 ka va A cc own nL) {a n k : Nat} {f : Nat → Int32} {i x : Int32} {ws' : va_W} (q0 : Nat) (he : ws[q0]? = some (a, .inl (cy 0, n, .inl f))) (hin : ¬ (i < 0 ∨ n ≤ i.toNatClampNeg)) (hk : i.toNatClampNeg = k) (hw : ws.set q0 (a, .inl (cy 0, n, .inl (upd f k x))) = ws') (hdg : decode cc pc = .ok (.iastore, 1)) (K : BC p l e R s m args below meth c D A nL Q (pc + 1) lv st ws' cells slots) : BC p l e R s m args below meth c D A nL Q pc lv (.int x :: .int i :: .ref a :: st) ws cells slots := fun H locs ls hP hD hS hl => by
  subst hk
  subst hw
  exact va_iast hO.1 hO.2.1 hO.2.2.2.2.2.1 hP hD hS q0 0 he rfl hin hdg (fun H1 locs1 hP1 hD1 hS1 => K H1 locs1 ls hP1 hD1 hS1 hl)
theorem CC.mk {y : MethodName} {bytes : ByteArray} {maxL : Nat} {av : List Value} {w0 : va_W} {w1 : (Nat → Nat) → va_W} {mc ms : Nat} (hy : plainName y.cls = true) (hnm : y.name = "<init>") (hlen : (lg_sl av).length ≤ maxL) (body : ∀ {p : Program} {e : Env} {s : State} {m : MethodId} {args : Array Value} {below : List Frame} {meth : Method} {c : Code}, OKd p R s m args meth c D cy B0 ka va (va_A w0 s.heap.size) bytes y.cls maxL → BC p l e R s m args below meth c D (va_A w0 s.heap.size) maxL (MQ below (va_Qv (fun _ : Nat → Nat => True) (fun u t => va_P D vwCl (w1 u) t.heap ∧ va_K D vwCl (tyl cy) t ∧ va_D (va_A w0 s.heap.size) (w1 u)) (va_A w0 s.heap.size)) args s mc ms (va_A w0 s.heap.size)) 0 (lv_args 0 av) [] w0 0 0) : CC l D cy B0 ka va y bytes maxL R av w0 w1 mc ms := fun sz => by
  refine Met.ofW (cc := bytes) (maxL := maxL) (ret := none) hy rfl ?_
  intro p e s m args below meth c s₁ B hml hv
  obtain ⟨rfl, hsz, hP, hK, hD0, hAO, hB0⟩ := hv
  subst hsz
  have hts := atoms_spec (ws := .code y bytes maxL none :: lw_g) B.pre
  have hown : s.vm.findClass y.cls = some m.cls := findClass_of_methodNamed B.named
  have hin : meth.name = "<init>" := (name_of_methodNamed B.named B.method).1.trans hnm
  have hl := lv_entry av (n := maxL) hlen
  rw [lg_entry_eq]
  exact body ⟨B.exec, B.bytes, hml, hown, fun w hw => hts w (List.mem_cons_of_mem _ hw), hK, fun q h => Or.inr h, B.notSynchronized, B.returns, hin, hAO, hB0⟩ s.heap [] _ hP hD0.self va_S.rf hl
theorem k_ret (hO : OKd p R s m args meth c D cy B0 ka va A cc own nL) {w1 : (Nat → Nat) → va_W} (u : Nat → Nat) (js : List Nat) (hjs : js.filterMap (fun i => ws[i]?) = w1 u) (hjd : js.map (fun i => ws[i]?) = (w1 u).map some) (hnd : va_nd js = true) (hdg : decode cc pc = .ok (.return_, 1)) : BC p l e R s m args below meth c D A nL (MQ below (va_Qv (fun _ : Nat → Nat => True) (fun u t => va_P D vwCl (w1 u) t.heap ∧ va_K D vwCl (tyl cy) t ∧ va_D A (w1 u)) A) args s cells slots A) pc lv [] ws cells slots := fun H locs ls hP hD hS hl => by
  have hP9 := hP.sub js hjs
  have hD9 := hD.sub js hnd hjd
  exact W.vret hO.1 hO.2.1 hO.2.2.2.2.2.2.2.2.1 (fun t ht hW => ⟨⟨u, rfl, trivial, by rw [ht]; exact hP9, va_K.moved hW.alike hO.2.2.2.2.2.1, hD9⟩, hS.F ht⟩) hS.2.2 hdg hO.2.2.2.2.2.2.2.1
end CROWS
end
section
theorem ic_b_110 : (Int8.ofInt (110)).toInt32 = (110 : Int32) := by decide
theorem ic_b_22 : (Int8.ofInt (22)).toInt32 = (22 : Int32) := by decide
theorem ic_b_50 : (Int8.ofInt (50)).toInt32 = (50 : Int32) := by decide
theorem ic_s_1760 : (Int16.ofInt (1760)).toInt32 = (1760 : Int32) := by decide
theorem ic_s_1800 : (Int16.ofInt (1800)).toInt32 = (1800 : Int32) := by decide
theorem ic_s_287 : (Int16.ofInt (287)).toInt32 = (287 : Int32) := by decide
theorem ic_s_3200 : (Int16.ofInt (3200)).toInt32 = (3200 : Int32) := by decide
theorem ic_s_500 : (Int16.ofInt (500)).toInt32 = (500 : Int32) := by decide
theorem bcw0 : (okW 175 (Cond.instanceMethod ⟨"PalmHours$Formula", "<init>", "()V"⟩) && (true)) = true := by decide +kernel
theorem w175 : Cond.instanceMethod ⟨"PalmHours$Formula", "<init>", "()V"⟩ ∈ lw_g := okW_g (an1 bcw0)
theorem bcw1 : (wdC 176 ⟨"PalmHours$Formula", "<init>", "()V"⟩ cX0_init 1 none && (true)) = true := by decide +kernel
theorem w176 : Cond.code ⟨"PalmHours$Formula", "<init>", "()V"⟩ cX0_init 1 none ∈ lw_g := wdC_g (an1 bcw1)
theorem mdX0_init : MD yX0_init cX0_init 1 none 0 := ⟨w176, w123, by decide +kernel, by decide⟩
theorem bcw2 : (okW 177 (Cond.methodLink "PalmHours$Formula" 3 objectInit) && (okW 145 (Cond.instanceMethod objectInit) && (okW 165 (Cond.arrayClass .int) && (okW 152 (Cond.methodLink "PalmHours$Tape" 3 objectInit) && (okW 171 (Cond.methodLink "PalmHours$Town" 3 objectInit) && (okW 172 (Cond.classLink "PalmHours$Town" 64 "PalmHours$Formula") && (okW 173 (Cond.instantiable "PalmHours$Formula" 2) && (true)))))))) = true := by decide +kernel
theorem xw177 : Cond.methodLink "PalmHours$Formula" 3 objectInit ∈ lw_g := okW_g (an1 bcw2)
theorem xw145 : Cond.instanceMethod objectInit ∈ lw_g := okW_g (an1 (an2 bcw2))
theorem xw165 : Cond.arrayClass .int ∈ lw_g := okW_g (an1 (an2 (an2 bcw2)))
theorem xw152 : Cond.methodLink "PalmHours$Tape" 3 objectInit ∈ lw_g := okW_g (an1 (an2 (an2 (an2 bcw2))))
theorem xw171 : Cond.methodLink "PalmHours$Town" 3 objectInit ∈ lw_g := okW_g (an1 (an2 (an2 (an2 (an2 bcw2)))))
theorem xw172 : Cond.classLink "PalmHours$Town" 64 "PalmHours$Formula" ∈ lw_g := okW_g (an1 (an2 (an2 (an2 (an2 (an2 bcw2))))))
theorem xw173 : Cond.instantiable "PalmHours$Formula" 2 ∈ lw_g := okW_g (an1 (an2 (an2 (an2 (an2 (an2 (an2 bcw2)))))))
theorem bcw3 : (wdC 146 objectInit ⟨#[0xb1]⟩ 1 none && (true)) = true := by decide +kernel
theorem xw146 : Cond.code objectInit ⟨#[0xb1]⟩ 1 none ∈ lw_g := wdC_g (an1 bcw3)
theorem nlX9_64 : NL RX9 64 0 RX0 TX0 2 tyX0 := ⟨rfl, inX0, xw172, xw173, w123, tyX0_ok⟩
theorem fsX0 : ∀ j, j < 2 → defaultValue (tyX0 j) = vp_V [.null, .int 0] j := fun j hj => by rcases (show j = 0 ∨ j = 1 by omega) with rfl | rfl <;> rfl
theorem bcw4 : (okW 388 (Cond.methodLink "PalmHours$Phrases" 3 objectInit) && (okW 415 (Cond.methodLink "PalmHours$Palm" 3 objectInit) && (okW 451 (Cond.methodLink "PalmHours$State" 3 objectInit) && (okW 489 (Cond.methodLink "PalmHours$Past" 3 objectInit) && (okW 490 (Cond.classLink "PalmHours$Past" 11 "[[I") && (okW 508 (Cond.methodLink "PalmHours$Walks" 3 objectInit) && (okW 521 (Cond.methodLink "PalmHours$Seen" 3 objectInit) && (okW 522 (Cond.classLink "PalmHours$Seen" 25 "[[I") && (okW 1241 (Cond.methodLink "PalmHoursModel" 1 objectInit) && (okW 1447 (Cond.arrayClass .long) && (okW 1448 (Cond.arrayClass .boolean) && (true)))))))))))) = true := by decide +kernel
theorem xw388 : Cond.methodLink "PalmHours$Phrases" 3 objectInit ∈ lw_g := okW_g (an1 bcw4)
theorem xw415 : Cond.methodLink "PalmHours$Palm" 3 objectInit ∈ lw_g := okW_g (an1 (an2 bcw4))
theorem xw451 : Cond.methodLink "PalmHours$State" 3 objectInit ∈ lw_g := okW_g (an1 (an2 (an2 bcw4)))
theorem xw489 : Cond.methodLink "PalmHours$Past" 3 objectInit ∈ lw_g := okW_g (an1 (an2 (an2 (an2 bcw4))))
theorem xw490 : Cond.classLink "PalmHours$Past" 11 "[[I" ∈ lw_g := okW_g (an1 (an2 (an2 (an2 (an2 bcw4)))))
theorem xw508 : Cond.methodLink "PalmHours$Walks" 3 objectInit ∈ lw_g := okW_g (an1 (an2 (an2 (an2 (an2 (an2 bcw4))))))
theorem xw521 : Cond.methodLink "PalmHours$Seen" 3 objectInit ∈ lw_g := okW_g (an1 (an2 (an2 (an2 (an2 (an2 (an2 bcw4)))))))
theorem xw522 : Cond.classLink "PalmHours$Seen" 25 "[[I" ∈ lw_g := okW_g (an1 (an2 (an2 (an2 (an2 (an2 (an2 (an2 bcw4))))))))
theorem xw1241 : Cond.methodLink "PalmHoursModel" 1 objectInit ∈ lw_g := okW_g (an1 (an2 (an2 (an2 (an2 (an2 (an2 (an2 (an2 bcw4)))))))))
theorem xw1447 : Cond.arrayClass .long ∈ lw_g := okW_g (an1 (an2 (an2 (an2 (an2 (an2 (an2 (an2 (an2 (an2 bcw4))))))))))
theorem xw1448 : Cond.arrayClass .boolean ∈ lw_g := okW_g (an1 (an2 (an2 (an2 (an2 (an2 (an2 (an2 (an2 (an2 (an2 bcw4)))))))))))
end
