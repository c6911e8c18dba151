section
section
variable {p : Program} {l : Launch} {e : Env} {s : State} {m : MethodId} {args : Array Value} {below : List Frame} {meth : Method} {c : Code} {D : va_G} {cy : Nat → ClassId} {ad : Nat → Nat} {dd : Nat}

/-! X5_read -/
def fX5_read_74 (n0 : Nat) (q2 : Nat) (k33 : Int32 → Int32 → Mem → Option (Int32 × Mem)) (x3 : Int32) (x4 : Int32) (u0 : Int32) (M : Mem) : Option (Int32 × Mem) :=
  if u0 = 0 then
    some ((0 : Int32), M)
  else
    (fX7_at n0 (((3 : Int32) * x4) + (2 : Int32)) M).bind fun z88 =>
    if z88.1 ≤ (23 : Int32) then
      k33 x3 (x4 + (1 : Int32)) z88.2
    else
      some ((0 : Int32), z88.2)
def fX5_read_73 (n0 : Nat) (q2 : Nat) (k33 : Int32 → Int32 → Mem → Option (Int32 × Mem)) (x3 : Int32) (x4 : Int32) (M : Mem) : Option (Int32 × Mem) :=
  fX5_read_74 n0 q2 k33 x3 x4 (0 : Int32) M
def bX5_read_107 (n0 : Nat) (q2 : Nat) (k107 : Int32 → Int32 → Mem → Option (Int32 × Mem)) (x3 : Int32) (x4 : Int32) (M : Mem) : Option (Int32 × Mem) :=
  if x3 ≤ x4 then
    bnd (sI M 2688 x3) fun M170 =>
    some ((1 : Int32), M170)
  else
    (fX7_at n0 ((3 : Int32) * x4) M).bind fun z124 =>
    if oob x4 16 then none else
    bnd (sA z124.2 22 (Int32.toNatClampNeg x4) z124.1) fun M127 =>
    (fX7_at n0 (((3 : Int32) * x4) + (1 : Int32)) M127).bind fun z141 =>
    if oob x4 16 then none else
    bnd (sA z141.2 23 (Int32.toNatClampNeg x4) z141.1) fun M144 =>
    (fX7_at n0 (((3 : Int32) * x4) + (2 : Int32)) M144).bind fun z158 =>
    if oob x4 16 then none else
    bnd (sA z158.2 24 (Int32.toNatClampNeg x4) z158.1) fun M161 =>
    k107 x3 (x4 + (1 : Int32)) M161
def fX5_read_107 (n0 : Nat) (q2 : Nat) : Int32 → Int32 → Mem → Option (Int32 × Mem) := loopN (bX5_read_107 n0 q2) (fun _ _ _ => none) n0
def bX5_read_33 (n0 : Nat) (q2 : Nat) (k33 : Int32 → Int32 → Mem → Option (Int32 × Mem)) (x3 : Int32) (x4 : Int32) (M : Mem) : Option (Int32 × Mem) :=
  if x3 ≤ x4 then
    fX5_read_107 n0 q2 x3 (0 : Int32) M
  else
    (fX7_at n0 ((3 : Int32) * x4) M).bind fun z44 =>
    if (40 : Int32) < z44.1 then
      fX5_read_73 n0 q2 k33 x3 x4 z44.2
    else
      (fX7_at n0 (((3 : Int32) * x4) + (1 : Int32)) z44.2).bind fun z60 =>
      (fX9_isCorner n0 q2 z60.1 z60.2).bind fun z63 =>
      if z63.1 = 0 then
        fX5_read_73 n0 q2 k33 x3 x4 z63.2
      else
        fX5_read_74 n0 q2 k33 x3 x4 (1 : Int32) z63.2
def fX5_read_33 (n0 : Nat) (q2 : Nat) : Int32 → Int32 → Mem → Option (Int32 × Mem) := loopN (bX5_read_33 n0 q2) (fun _ _ _ => none) n0
def fX5_read (n0 : Nat) (q2 : Nat) (M : Mem) : Option (Int32 × Mem) :=
  if (3 : Int32) = 0 then none else
  bnd ((gI M 641) / (3 : Int32)) fun x3_6 =>
  if x3_6 < (1 : Int32) then
    some ((0 : Int32), M)
  else
    if (16 : Int32) < x3_6 then
      some ((0 : Int32), M)
    else
      if (gI M 641) = ((3 : Int32) * x3_6) then
        fX5_read_33 n0 q2 x3_6 (0 : Int32) M
      else
        some ((0 : Int32), M)
theorem tfX5_read_74 (n0 : Nat) (q2 : Nat) (hq2 : isK LX q2 9) (hO : OKc p (rmL 2) s m args meth c LX D cy ad cX5_read RX5 6 2 (some .boolean)) (k33 : Int32 → Int32 → Mem → Option (Int32 × Mem)) (hk33 : ∀ (x3 : Int32) (x4 : Int32) (M : Mem), BL p l e (rmL 2) s m args below meth c LX D cy ad 6 (QI LX D cy ad) 33 [(0, .ref (ad 21)), (1, .ref (ad 5)), (2, .ref (ad q2)), (3, .int x3), (4, .int x4)] [] M (k33 x3 x4 M)) (x3 : Int32) (x4 : Int32) (u0 : Int32) (M : Mem) : BL p l e (rmL 2) s m args below meth c LX D cy ad 6 (QI LX D cy ad) 74 [(0, .ref (ad 21)), (1, .ref (ad 5)), (2, .ref (ad q2)), (3, .int x3), (4, .int x4)] [.int u0] M (fX5_read_74 n0 q2 k33 x3 x4 u0 M) := by
  unfold fX5_read_74
  refine b_istore hO dX5_read_74 (by decide) (lv' := [(5, .int _), (0, .ref _), (1, .ref _), (2, .ref _), (3, .int _), (4, .int _)]) rfl ?_
  refine b_iload hO dX5_read_76 0 rfl ?_
  refine b_if_eq hO dX5_read_78 (tgt := 96) (by decide) ?_ ?_
  · refine b_iconst hO dX5_read_96 ic_i_0 ?_
    exact b_zretc hO (Or.inl rfl) dX5_read_97
  · refine b_aload_n hO dX5_read_81 2 rfl rfl ?_
    refine b_iconst hO dX5_read_82 ic_i_3 ?_
    refine b_iload hO dX5_read_83 5 rfl ?_
    refine b_imul hO dX5_read_85 ?_
    refine b_iconst hO dX5_read_86 ic_i_2 ?_
    refine b_iadd hO dX5_read_87 ?_
    refine b_callVI hO mdX7_at mvX7_at w1092 (ci := 7) rfl rfl (by decide) kLX_5 (As := [.int _]) (st := []) (ctX7_at n0 hO.2.2.2.2.2.2.1 _ _) (Nat.le_of_ble_eq_true rfl) rfl rfl (Nat.le_of_ble_eq_true rfl) dX5_read_88 (fun z88 => ?_)
    refine b_bipush hO dX5_read_91 ic_b_23 ?_
    refine b_icmp_le hO dX5_read_93 (tgt := 98) (by decide) ?_ ?_
    · refine b_iinc hO dX5_read_98 5 rfl ic_i_1 (by decide) (lv' := [(4, .int _), (5, .int _), (0, .ref _), (1, .ref _), (2, .ref _), (3, .int _)]) rfl ?_
      refine b_goto hO dX5_read_101 (tgt := 33) (by decide) ?_
      refine b_sub [2, 3, 4, 5, 0] rfl ?_
      exact hk33 _ _ _
    · refine b_iconst hO dX5_read_96 ic_i_0 ?_
      exact b_zretc hO (Or.inl rfl) dX5_read_97
theorem tfX5_read_73 (n0 : Nat) (q2 : Nat) (hq2 : isK LX q2 9) (hO : OKc p (rmL 2) s m args meth c LX D cy ad cX5_read RX5 6 2 (some .boolean)) (k33 : Int32 → Int32 → Mem → Option (Int32 × Mem)) (hk33 : ∀ (x3 : Int32) (x4 : Int32) (M : Mem), BL p l e (rmL 2) s m args below meth c LX D cy ad 6 (QI LX D cy ad) 33 [(0, .ref (ad 21)), (1, .ref (ad 5)), (2, .ref (ad q2)), (3, .int x3), (4, .int x4)] [] M (k33 x3 x4 M)) (x3 : Int32) (x4 : Int32) (M : Mem) : BL p l e (rmL 2) s m args below meth c LX D cy ad 6 (QI LX D cy ad) 73 [(0, .ref (ad 21)), (1, .ref (ad 5)), (2, .ref (ad q2)), (3, .int x3), (4, .int x4)] [] M (fX5_read_73 n0 q2 k33 x3 x4 M) := by
  unfold fX5_read_73
  refine b_iconst hO dX5_read_73 ic_i_0 ?_
  exact tfX5_read_74 n0 q2 hq2 hO k33 hk33 _ _ _ _
theorem tbX5_read_107 (n0 : Nat) (q2 : Nat) (hq2 : isK LX q2 9) (hO : OKc p (rmL 2) s m args meth c LX D cy ad cX5_read RX5 6 2 (some .boolean)) (k107 : Int32 → Int32 → Mem → Option (Int32 × Mem)) (hk107 : ∀ (x3 : Int32) (x4 : Int32) (M : Mem), BL p l e (rmL 2) s m args below meth c LX D cy ad 6 (QI LX D cy ad) 107 [(0, .ref (ad 21)), (1, .ref (ad 5)), (3, .int x3), (4, .int x4)] [] M (k107 x3 x4 M)) (x3 : Int32) (x4 : Int32) (M : Mem) : BL p l e (rmL 2) s m args below meth c LX D cy ad 6 (QI LX D cy ad) 107 [(0, .ref (ad 21)), (1, .ref (ad 5)), (3, .int x3), (4, .int x4)] [] M (bX5_read_107 n0 q2 k107 x3 x4 M) := by
  unfold bX5_read_107
  refine b_iload hO dX5_read_107 3 rfl ?_
  refine b_iload_n hO dX5_read_109 2 rfl rfl ?_
  refine b_icmp_ge hO dX5_read_110 (tgt := 168) (by decide) ?_ ?_
  · refine b_aload_n hO dX5_read_168 0 rfl rfl ?_
    refine b_iload_n hO dX5_read_169 2 rfl rfl ?_
    refine b_putI hO flX5_9 kLX_21 rfl rfl rfl (id := 2688) rfl dX5_read_170 ?_
    refine b_bnd (fun M170 => ?_)
    refine b_iconst hO dX5_read_173 ic_i_1 ?_
    exact b_zretc hO (Or.inr rfl) dX5_read_174
  · refine b_aload_n hO dX5_read_113 0 rfl rfl ?_
    refine b_get hO flX5_15 kLX_21 (v := .ref (ad 22)) rfl dX5_read_114 ?_
    refine b_iload hO dX5_read_117 3 rfl ?_
    refine b_aload_n hO dX5_read_119 1 rfl rfl ?_
    refine b_iconst hO dX5_read_120 ic_i_3 ?_
    refine b_iload hO dX5_read_121 3 rfl ?_
    refine b_imul hO dX5_read_123 ?_
    refine b_callVI hO mdX7_at mvX7_at w1092 (ci := 7) rfl rfl (by decide) kLX_5 (As := [.int _]) (st := [.int _, .ref _]) (ctX7_at n0 hO.2.2.2.2.2.2.1 _ _) (Nat.le_of_ble_eq_true rfl) rfl rfl (Nat.le_of_ble_eq_true rfl) dX5_read_124 (fun z124 => ?_)
    refine b_iast hO kLX_22 (n := 16) rfl dX5_read_127 ?_
    refine b_bnd (fun M127 => ?_)
    refine b_aload_n hO dX5_read_128 0 rfl rfl ?_
    refine b_get hO flX5_19 kLX_21 (v := .ref (ad 23)) rfl dX5_read_129 ?_
    refine b_iload hO dX5_read_132 3 rfl ?_
    refine b_aload_n hO dX5_read_134 1 rfl rfl ?_
    refine b_iconst hO dX5_read_135 ic_i_3 ?_
    refine b_iload hO dX5_read_136 3 rfl ?_
    refine b_imul hO dX5_read_138 ?_
    refine b_iconst hO dX5_read_139 ic_i_1 ?_
    refine b_iadd hO dX5_read_140 ?_
    refine b_callVI hO mdX7_at mvX7_at w1092 (ci := 7) rfl rfl (by decide) kLX_5 (As := [.int _]) (st := [.int _, .ref _]) (ctX7_at n0 hO.2.2.2.2.2.2.1 _ _) (Nat.le_of_ble_eq_true rfl) rfl rfl (Nat.le_of_ble_eq_true rfl) dX5_read_141 (fun z141 => ?_)
    refine b_iast hO kLX_23 (n := 16) rfl dX5_read_144 ?_
    refine b_bnd (fun M144 => ?_)
    refine b_aload_n hO dX5_read_145 0 rfl rfl ?_
    refine b_get hO flX5_22 kLX_21 (v := .ref (ad 24)) rfl dX5_read_146 ?_
    refine b_iload hO dX5_read_149 3 rfl ?_
    refine b_aload_n hO dX5_read_151 1 rfl rfl ?_
    refine b_iconst hO dX5_read_152 ic_i_3 ?_
    refine b_iload hO dX5_read_153 3 rfl ?_
    refine b_imul hO dX5_read_155 ?_
    refine b_iconst hO dX5_read_156 ic_i_2 ?_
    refine b_iadd hO dX5_read_157 ?_
    refine b_callVI hO mdX7_at mvX7_at w1092 (ci := 7) rfl rfl (by decide) kLX_5 (As := [.int _]) (st := [.int _, .ref _]) (ctX7_at n0 hO.2.2.2.2.2.2.1 _ _) (Nat.le_of_ble_eq_true rfl) rfl rfl (Nat.le_of_ble_eq_true rfl) dX5_read_158 (fun z158 => ?_)
    refine b_iast hO kLX_24 (n := 16) rfl dX5_read_161 ?_
    refine b_bnd (fun M161 => ?_)
    refine b_iinc hO dX5_read_162 3 rfl ic_i_1 (by decide) (lv' := [(4, .int _), (0, .ref _), (1, .ref _), (3, .int _)]) rfl ?_
    refine b_goto hO dX5_read_165 (tgt := 107) (by decide) ?_
    refine b_sub [1, 2, 3, 0] rfl ?_
    exact hk107 _ _ _
theorem lX5_read_107 (n0 : Nat) (q2 : Nat) (hq2 : isK LX q2 9) (hO : OKc p (rmL 2) s m args meth c LX D cy ad cX5_read RX5 6 2 (some .boolean)) : ∀ (w : Nat) (x3 : Int32) (x4 : Int32) (M : Mem), BL p l e (rmL 2) s m args below meth c LX D cy ad 6 (QI LX D cy ad) 107 [(0, .ref (ad 21)), (1, .ref (ad 5)), (3, .int x3), (4, .int x4)] [] M (loopN (bX5_read_107 n0 q2) (fun _ _ _ => none) w x3 x4 M) := by
  intro w
  induction w with
  | zero =>
    intros
    exact b_none
  | succ w ih =>
    intro x3 x4 M
    exact tbX5_read_107 n0 q2 hq2 hO _ ih x3 x4 M
theorem tfX5_read_107 (n0 : Nat) (q2 : Nat) (hq2 : isK LX q2 9) (hO : OKc p (rmL 2) s m args meth c LX D cy ad cX5_read RX5 6 2 (some .boolean)) (x3 : Int32) (x4 : Int32) (M : Mem) : BL p l e (rmL 2) s m args below meth c LX D cy ad 6 (QI LX D cy ad) 107 [(0, .ref (ad 21)), (1, .ref (ad 5)), (3, .int x3), (4, .int x4)] [] M (fX5_read_107 n0 q2 x3 x4 M) := lX5_read_107 n0 q2 hq2 hO n0 x3 x4 M
theorem tbX5_read_33 (n0 : Nat) (q2 : Nat) (hq2 : isK LX q2 9) (hO : OKc p (rmL 2) s m args meth c LX D cy ad cX5_read RX5 6 2 (some .boolean)) (k33 : Int32 → Int32 → Mem → Option (Int32 × Mem)) (hk33 : ∀ (x3 : Int32) (x4 : Int32) (M : Mem), BL p l e (rmL 2) s m args below meth c LX D cy ad 6 (QI LX D cy ad) 33 [(0, .ref (ad 21)), (1, .ref (ad 5)), (2, .ref (ad q2)), (3, .int x3), (4, .int x4)] [] M (k33 x3 x4 M)) (x3 : Int32) (x4 : Int32) (M : Mem) : BL p l e (rmL 2) s m args below meth c LX D cy ad 6 (QI LX D cy ad) 33 [(0, .ref (ad 21)), (1, .ref (ad 5)), (2, .ref (ad q2)), (3, .int x3), (4, .int x4)] [] M (bX5_read_33 n0 q2 k33 x3 x4 M) := by
  unfold bX5_read_33
  refine b_iload hO dX5_read_33 4 rfl ?_
  refine b_iload_n hO dX5_read_35 3 rfl rfl ?_
  refine b_icmp_ge hO dX5_read_36 (tgt := 104) (by decide) ?_ ?_
  · refine b_iconst hO dX5_read_104 ic_i_0 ?_
    refine b_istore hO dX5_read_105 (by decide) (lv' := [(4, .int _), (0, .ref _), (1, .ref _), (2, .ref _), (3, .int _)]) rfl ?_
    refine b_sub [1, 2, 4, 0] rfl ?_
    exact tfX5_read_107 n0 q2 hq2 hO _ _ _
  · refine b_aload_n hO dX5_read_39 1 rfl rfl ?_
    refine b_iconst hO dX5_read_40 ic_i_3 ?_
    refine b_iload hO dX5_read_41 4 rfl ?_
    refine b_imul hO dX5_read_43 ?_
    refine b_callVI hO mdX7_at mvX7_at w1092 (ci := 7) rfl rfl (by decide) kLX_5 (As := [.int _]) (st := []) (ctX7_at n0 hO.2.2.2.2.2.2.1 _ _) (Nat.le_of_ble_eq_true rfl) rfl rfl (Nat.le_of_ble_eq_true rfl) dX5_read_44 (fun z44 => ?_)
    refine b_bipush hO dX5_read_47 ic_b_40 ?_
    refine b_icmp_gt hO dX5_read_49 (tgt := 73) (by decide) ?_ ?_
    · exact tfX5_read_73 n0 q2 hq2 hO k33 hk33 _ _ _
    · refine b_aload_n hO dX5_read_52 2 rfl rfl ?_
      refine b_aload_n hO dX5_read_53 1 rfl rfl ?_
      refine b_iconst hO dX5_read_54 ic_i_3 ?_
      refine b_iload hO dX5_read_55 4 rfl ?_
      refine b_imul hO dX5_read_57 ?_
      refine b_iconst hO dX5_read_58 ic_i_1 ?_
      refine b_iadd hO dX5_read_59 ?_
      refine b_callVI hO mdX7_at mvX7_at w1092 (ci := 7) rfl rfl (by decide) kLX_5 (As := [.int _]) (st := [.ref _]) (ctX7_at n0 hO.2.2.2.2.2.2.1 _ _) (Nat.le_of_ble_eq_true rfl) rfl rfl (Nat.le_of_ble_eq_true rfl) dX5_read_60 (fun z60 => ?_)
      refine b_callVI hO mdX9_isCorner mvX9_isCorner w1093 (ci := 9) rfl rfl (by decide) hq2 (As := [.int _]) (st := []) (ctX9_isCorner n0 _ hq2 hO.2.2.2.2.2.2.1 _ _) (Nat.le_of_ble_eq_true rfl) rfl rfl (Nat.le_of_ble_eq_true rfl) dX5_read_63 (fun z63 => ?_)
      refine b_if_eq hO dX5_read_66 (tgt := 73) (by decide) ?_ ?_
      · exact tfX5_read_73 n0 q2 hq2 hO k33 hk33 _ _ _
      · refine b_iconst hO dX5_read_69 ic_i_1 ?_
        refine b_goto hO dX5_read_70 (tgt := 74) (by decide) ?_
        exact tfX5_read_74 n0 q2 hq2 hO k33 hk33 _ _ _ _
theorem lX5_read_33 (n0 : Nat) (q2 : Nat) (hq2 : isK LX q2 9) (hO : OKc p (rmL 2) s m args meth c LX D cy ad cX5_read RX5 6 2 (some .boolean)) : ∀ (w : Nat) (x3 : Int32) (x4 : Int32) (M : Mem), BL p l e (rmL 2) s m args below meth c LX D cy ad 6 (QI LX D cy ad) 33 [(0, .ref (ad 21)), (1, .ref (ad 5)), (2, .ref (ad q2)), (3, .int x3), (4, .int x4)] [] M (loopN (bX5_read_33 n0 q2) (fun _ _ _ => none) w x3 x4 M) := by
  intro w
  induction w with
  | zero =>
    intros
    exact b_none
  | succ w ih =>
    intro x3 x4 M
    exact tbX5_read_33 n0 q2 hq2 hO _ ih x3 x4 M
theorem tfX5_read_33 (n0 : Nat) (q2 : Nat) (hq2 : isK LX q2 9) (hO : OKc p (rmL 2) s m args meth c LX D cy ad cX5_read RX5 6 2 (some .boolean)) (x3 : Int32) (x4 : Int32) (M : Mem) : BL p l e (rmL 2) s m args below meth c LX D cy ad 6 (QI LX D cy ad) 33 [(0, .ref (ad 21)), (1, .ref (ad 5)), (2, .ref (ad q2)), (3, .int x3), (4, .int x4)] [] M (fX5_read_33 n0 q2 x3 x4 M) := lX5_read_33 n0 q2 hq2 hO n0 x3 x4 M
theorem tfX5_read (n0 : Nat) (q2 : Nat) (hq2 : isK LX q2 9) (hO : OKc p (rmL 2) s m args meth c LX D cy ad cX5_read RX5 6 2 (some .boolean)) (M : Mem) : BL p l e (rmL 2) s m args below meth c LX D cy ad 6 (QI LX D cy ad) 0 [(0, .ref (ad 21)), (1, .ref (ad 5)), (2, .ref (ad q2))] [] M (fX5_read n0 q2 M) := by
  unfold fX5_read
  refine b_aload_n hO dX5_read_0 1 rfl rfl ?_
  refine b_get hO flX5_30 kLX_5 (v := .int (gI _ 641)) rfl dX5_read_1 ?_
  refine b_iconst hO dX5_read_4 ic_i_3 ?_
  refine b_idiv hO dX5_read_5 ?_
  refine b_topI (fun x3_6 => ?_)
  refine b_istore_n hO dX5_read_6 rfl (by decide) (lv' := [(3, .int _), (0, .ref _), (1, .ref _), (2, .ref _)]) rfl ?_
  refine b_iload_n hO dX5_read_7 0 rfl rfl ?_
  refine b_iconst hO dX5_read_8 ic_i_1 ?_
  refine b_icmp_lt hO dX5_read_9 (tgt := 28) (by decide) ?_ ?_
  · refine b_iconst hO dX5_read_28 ic_i_0 ?_
    exact b_zretc hO (Or.inl rfl) dX5_read_29
  · refine b_iload_n hO dX5_read_12 0 rfl rfl ?_
    refine b_bipush hO dX5_read_13 ic_b_16 ?_
    refine b_icmp_gt hO dX5_read_15 (tgt := 28) (by decide) ?_ ?_
    · refine b_iconst hO dX5_read_28 ic_i_0 ?_
      exact b_zretc hO (Or.inl rfl) dX5_read_29
    · refine b_aload_n hO dX5_read_18 2 rfl rfl ?_
      refine b_get hO flX5_30 kLX_5 (v := .int (gI _ 641)) rfl dX5_read_19 ?_
      refine b_iconst hO dX5_read_22 ic_i_3 ?_
      refine b_iload_n hO dX5_read_23 0 rfl rfl ?_
      refine b_imul hO dX5_read_24 ?_
      refine b_icmp_eq hO dX5_read_25 (tgt := 30) (by decide) ?_ ?_
      · refine b_iconst hO dX5_read_30 ic_i_0 ?_
        refine b_istore hO dX5_read_31 (by decide) (lv' := [(4, .int _), (3, .int _), (0, .ref _), (1, .ref _), (2, .ref _)]) rfl ?_
        refine b_sub [2, 3, 4, 1, 0] rfl ?_
        exact tfX5_read_33 n0 q2 hq2 hO _ _ _
      · refine b_iconst hO dX5_read_28 ic_i_0 ?_
        exact b_zretc hO (Or.inl rfl) dX5_read_29
theorem ctX5_read (n0 : Nat) (q2 : Nat) (hq2 : isK LX q2 9) (hI : Inj LX ad) (M : Mem) : CT l LX D cy ad yX5_read cX5_read 6 (some .boolean) 2 (QI LX D cy ad) [.ref (ad 21), .ref (ad 5), .ref (ad q2)] M (fX5_read n0 q2 M) :=
  CT.mk LXok hI (by decide) (Nat.le_of_ble_eq_true rfl) (fun hO => tfX5_read n0 q2 hq2 hO M)
/-! X5_isAbout -/
def bX5_isAbout_2 (n0 : Nat) (k2 : Int32 → Int32 → Mem → Option (Int32 × Mem)) (x1 : Int32) (x2 : Int32) (M : Mem) : Option (Int32 × Mem) :=
  if (gI M 2688) ≤ x2 then
    some ((0 : Int32), M)
  else
    if oob x2 16 then none else
    if (gA M 23 (Int32.toNatClampNeg x2)) = x1 then
      some ((1 : Int32), M)
    else
      k2 x1 (x2 + (1 : Int32)) M
def fX5_isAbout_2 (n0 : Nat) : Int32 → Int32 → Mem → Option (Int32 × Mem) := loopN (bX5_isAbout_2 n0) (fun _ _ _ => none) n0
def fX5_isAbout (n0 : Nat) (x1 : Int32) (M : Mem) : Option (Int32 × Mem) :=
  fX5_isAbout_2 n0 x1 (0 : Int32) M
theorem tbX5_isAbout_2 (n0 : Nat) (hO : OKc p (rmL 1) s m args meth c LX D cy ad cX5_isAbout RX5 3 1 (some .boolean)) (k2 : Int32 → Int32 → Mem → Option (Int32 × Mem)) (hk2 : ∀ (x1 : Int32) (x2 : Int32) (M : Mem), BL p l e (rmL 1) s m args below meth c LX D cy ad 3 (QI LX D cy ad) 2 [(0, .ref (ad 21)), (1, .int x1), (2, .int x2)] [] M (k2 x1 x2 M)) (x1 : Int32) (x2 : Int32) (M : Mem) : BL p l e (rmL 1) s m args below meth c LX D cy ad 3 (QI LX D cy ad) 2 [(0, .ref (ad 21)), (1, .int x1), (2, .int x2)] [] M (bX5_isAbout_2 n0 k2 x1 x2 M) := by
  unfold bX5_isAbout_2
  refine b_iload_n hO dX5_isAbout_2 2 rfl rfl ?_
  refine b_aload_n hO dX5_isAbout_3 0 rfl rfl ?_
  refine b_get hO flX5_9 kLX_21 (v := .int (gI _ 2688)) rfl dX5_isAbout_4 ?_
  refine b_icmp_ge hO dX5_isAbout_7 (tgt := 28) (by decide) ?_ ?_
  · refine b_iconst hO dX5_isAbout_28 ic_i_0 ?_
    exact b_zretc hO (Or.inl rfl) dX5_isAbout_29
  · refine b_aload_n hO dX5_isAbout_10 0 rfl rfl ?_
    refine b_get hO flX5_19 kLX_21 (v := .ref (ad 23)) rfl dX5_isAbout_11 ?_
    refine b_iload_n hO dX5_isAbout_14 2 rfl rfl ?_
    refine b_iald hO kLX_23 (n := 16) rfl dX5_isAbout_15 ?_
    refine b_iload_n hO dX5_isAbout_16 1 rfl rfl ?_
    refine b_icmp_ne hO dX5_isAbout_17 (tgt := 22) (by decide) ?_ ?_
    · refine b_iinc hO dX5_isAbout_22 2 rfl ic_i_1 (by decide) (lv' := [(2, .int _), (0, .ref _), (1, .int _)]) rfl ?_
      refine b_goto hO dX5_isAbout_25 (tgt := 2) (by decide) ?_
      refine b_sub [1, 2, 0] rfl ?_
      exact hk2 _ _ _
    · refine b_iconst hO dX5_isAbout_20 ic_i_1 ?_
      exact b_zretc hO (Or.inr rfl) dX5_isAbout_21
theorem lX5_isAbout_2 (n0 : Nat) (hO : OKc p (rmL 1) s m args meth c LX D cy ad cX5_isAbout RX5 3 1 (some .boolean)) : ∀ (w : Nat) (x1 : Int32) (x2 : Int32) (M : Mem), BL p l e (rmL 1) s m args below meth c LX D cy ad 3 (QI LX D cy ad) 2 [(0, .ref (ad 21)), (1, .int x1), (2, .int x2)] [] M (loopN (bX5_isAbout_2 n0) (fun _ _ _ => none) w x1 x2 M) := by
  intro w
  induction w with
  | zero =>
    intros
    exact b_none
  | succ w ih =>
    intro x1 x2 M
    exact tbX5_isAbout_2 n0 hO _ ih x1 x2 M
theorem tfX5_isAbout_2 (n0 : Nat) (hO : OKc p (rmL 1) s m args meth c LX D cy ad cX5_isAbout RX5 3 1 (some .boolean)) (x1 : Int32) (x2 : Int32) (M : Mem) : BL p l e (rmL 1) s m args below meth c LX D cy ad 3 (QI LX D cy ad) 2 [(0, .ref (ad 21)), (1, .int x1), (2, .int x2)] [] M (fX5_isAbout_2 n0 x1 x2 M) := lX5_isAbout_2 n0 hO n0 x1 x2 M
theorem tfX5_isAbout (n0 : Nat) (hO : OKc p (rmL 1) s m args meth c LX D cy ad cX5_isAbout RX5 3 1 (some .boolean)) (x1 : Int32) (M : Mem) : BL p l e (rmL 1) s m args below meth c LX D cy ad 3 (QI LX D cy ad) 0 [(0, .ref (ad 21)), (1, .int x1)] [] M (fX5_isAbout n0 x1 M) := by
  unfold fX5_isAbout
  refine b_iconst hO dX5_isAbout_0 ic_i_0 ?_
  refine b_istore_n hO dX5_isAbout_1 rfl (by decide) (lv' := [(2, .int _), (0, .ref _), (1, .int _)]) rfl ?_
  refine b_sub [1, 2, 0] rfl ?_
  exact tfX5_isAbout_2 n0 hO _ _ _
theorem ctX5_isAbout (n0 : Nat) (hI : Inj LX ad) (x1 : Int32) (M : Mem) : CT l LX D cy ad yX5_isAbout cX5_isAbout 3 (some .boolean) 1 (QI LX D cy ad) [.ref (ad 21), .int x1] M (fX5_isAbout n0 x1 M) :=
  CT.mk LXok hI (by decide) (Nat.le_of_ble_eq_true rfl) (fun hO => tfX5_isAbout n0 hO x1 M)
/-! X5_isSo -/
def fX5_isSo_79 (n0 : Nat) (q2 : Nat) (k3 : Int32 → Int32 → Int32 → Mem → Option (Int32 × Mem)) (x1 : Int32) (x3 : Int32) (x4 : Int32) (M : Mem) : Option (Int32 × Mem) :=
  k3 x1 x3 (x4 + (1 : Int32)) M
def fX5_isSo_51 (n0 : Nat) (q2 : Nat) (k3 : Int32 → Int32 → Int32 → Mem → Option (Int32 × Mem)) (x1 : Int32) (x3 : Int32) (x4 : Int32) (u0 : Int32) (M : Mem) : Option (Int32 × Mem) :=
  if u0 = 0 then
    some ((0 : Int32), M)
  else
    if oob x4 16 then none else
    if oob (gA M 22 (Int32.toNatClampNeg x4)) (LX.ln q2) then none else
    if oob x4 16 then none else
    if (gA M q2 (Int32.toNatClampNeg (gA M 22 (Int32.toNatClampNeg x4)))) = (gA M 24 (Int32.toNatClampNeg x4)) then
      fX5_isSo_79 n0 q2 k3 x1 x3 x4 M
    else
      some ((0 : Int32), M)
def fX5_isSo_50 (n0 : Nat) (q2 : Nat) (k3 : Int32 → Int32 → Int32 → Mem → Option (Int32 × Mem)) (x1 : Int32) (x3 : Int32) (x4 : Int32) (M : Mem) : Option (Int32 × Mem) :=
  fX5_isSo_51 n0 q2 k3 x1 x3 x4 (0 : Int32) M
def bX5_isSo_3 (n0 : Nat) (q2 : Nat) (k3 : Int32 → Int32 → Int32 → Mem → Option (Int32 × Mem)) (x1 : Int32) (x3 : Int32) (x4 : Int32) (M : Mem) : Option (Int32 × Mem) :=
  if (gI M 2688) ≤ x4 then
    some ((1 : Int32), M)
  else
    if oob x4 16 then none else
    if (gA M 23 (Int32.toNatClampNeg x4)) = x1 then
      if oob x4 16 then none else
      if x3 < (gA M 22 (Int32.toNatClampNeg x4)) then
        fX5_isSo_50 n0 q2 k3 x1 x3 x4 M
      else
        if oob x4 16 then none else
        if (Int32.ofNat (LX.ln q2)) ≤ (gA M 22 (Int32.toNatClampNeg x4)) then
          fX5_isSo_50 n0 q2 k3 x1 x3 x4 M
        else
          fX5_isSo_51 n0 q2 k3 x1 x3 x4 (1 : Int32) M
    else
      fX5_isSo_79 n0 q2 k3 x1 x3 x4 M
def fX5_isSo_3 (n0 : Nat) (q2 : Nat) : Int32 → Int32 → Int32 → Mem → Option (Int32 × Mem) := loopN (bX5_isSo_3 n0 q2) (fun _ _ _ _ => none) n0
def fX5_isSo (n0 : Nat) (q2 : Nat) (x1 : Int32) (x3 : Int32) (M : Mem) : Option (Int32 × Mem) :=
  fX5_isSo_3 n0 q2 x1 x3 (0 : Int32) M
theorem tfX5_isSo_79 (n0 : Nat) (q2 : Nat) (hq2 : isK LX q2 13) (hO : OKc p (rmL 1) s m args meth c LX D cy ad cX5_isSo RX5 6 1 (some .boolean)) (k3 : Int32 → Int32 → Int32 → Mem → Option (Int32 × Mem)) (hk3 : ∀ (x1 : Int32) (x3 : Int32) (x4 : Int32) (M : Mem), BL p l e (rmL 1) s m args below meth c LX D cy ad 6 (QI LX D cy ad) 3 [(0, .ref (ad 21)), (1, .int x1), (2, .ref (ad q2)), (3, .int x3), (4, .int x4)] [] M (k3 x1 x3 x4 M)) (x1 : Int32) (x3 : Int32) (x4 : Int32) (M : Mem) : BL p l e (rmL 1) s m args below meth c LX D cy ad 6 (QI LX D cy ad) 79 [(0, .ref (ad 21)), (1, .int x1), (2, .ref (ad q2)), (3, .int x3), (4, .int x4)] [] M (fX5_isSo_79 n0 q2 k3 x1 x3 x4 M) := by
  unfold fX5_isSo_79
  refine b_iinc hO dX5_isSo_79 4 rfl ic_i_1 (by decide) (lv' := [(4, .int _), (0, .ref _), (1, .int _), (2, .ref _), (3, .int _)]) rfl ?_
  refine b_goto hO dX5_isSo_82 (tgt := 3) (by decide) ?_
  refine b_sub [1, 2, 3, 4, 0] rfl ?_
  exact hk3 _ _ _ _
theorem tfX5_isSo_51 (n0 : Nat) (q2 : Nat) (hq2 : isK LX q2 13) (hO : OKc p (rmL 1) s m args meth c LX D cy ad cX5_isSo RX5 6 1 (some .boolean)) (k3 : Int32 → Int32 → Int32 → Mem → Option (Int32 × Mem)) (hk3 : ∀ (x1 : Int32) (x3 : Int32) (x4 : Int32) (M : Mem), BL p l e (rmL 1) s m args below meth c LX D cy ad 6 (QI LX D cy ad) 3 [(0, .ref (ad 21)), (1, .int x1), (2, .ref (ad q2)), (3, .int x3), (4, .int x4)] [] M (k3 x1 x3 x4 M)) (x1 : Int32) (x3 : Int32) (x4 : Int32) (u0 : Int32) (M : Mem) : BL p l e (rmL 1) s m args below meth c LX D cy ad 6 (QI LX D cy ad) 51 [(0, .ref (ad 21)), (1, .int x1), (2, .ref (ad q2)), (3, .int x3), (4, .int x4)] [.int u0] M (fX5_isSo_51 n0 q2 k3 x1 x3 x4 u0 M) := by
  unfold fX5_isSo_51
  refine b_istore hO dX5_isSo_51 (by decide) (lv' := [(5, .int _), (0, .ref _), (1, .int _), (2, .ref _), (3, .int _), (4, .int _)]) rfl ?_
  refine b_iload hO dX5_isSo_53 0 rfl ?_
  refine b_if_eq hO dX5_isSo_55 (tgt := 77) (by decide) ?_ ?_
  · refine b_iconst hO dX5_isSo_77 ic_i_0 ?_
    exact b_zretc hO (Or.inl rfl) dX5_isSo_78
  · refine b_aload_n hO dX5_isSo_58 3 rfl rfl ?_
    refine b_aload_n hO dX5_isSo_59 1 rfl rfl ?_
    refine b_get hO flX5_15 kLX_21 (v := .ref (ad 22)) rfl dX5_isSo_60 ?_
    refine b_iload hO dX5_isSo_63 5 rfl ?_
    refine b_iald hO kLX_22 (n := 16) rfl dX5_isSo_65 ?_
    refine b_iald hO hq2 (n := (LX.ln q2)) rfl dX5_isSo_66 ?_
    refine b_aload_n hO dX5_isSo_67 1 rfl rfl ?_
    refine b_get hO flX5_22 kLX_21 (v := .ref (ad 24)) rfl dX5_isSo_68 ?_
    refine b_iload hO dX5_isSo_71 5 rfl ?_
    refine b_iald hO kLX_24 (n := 16) rfl dX5_isSo_73 ?_
    refine b_icmp_eq hO dX5_isSo_74 (tgt := 79) (by decide) ?_ ?_
    · refine b_sub [1, 2, 3, 4, 5] rfl ?_
      exact tfX5_isSo_79 n0 q2 hq2 hO k3 hk3 _ _ _ _
    · refine b_iconst hO dX5_isSo_77 ic_i_0 ?_
      exact b_zretc hO (Or.inl rfl) dX5_isSo_78
theorem tfX5_isSo_50 (n0 : Nat) (q2 : Nat) (hq2 : isK LX q2 13) (hO : OKc p (rmL 1) s m args meth c LX D cy ad cX5_isSo RX5 6 1 (some .boolean)) (k3 : Int32 → Int32 → Int32 → Mem → Option (Int32 × Mem)) (hk3 : ∀ (x1 : Int32) (x3 : Int32) (x4 : Int32) (M : Mem), BL p l e (rmL 1) s m args below meth c LX D cy ad 6 (QI LX D cy ad) 3 [(0, .ref (ad 21)), (1, .int x1), (2, .ref (ad q2)), (3, .int x3), (4, .int x4)] [] M (k3 x1 x3 x4 M)) (x1 : Int32) (x3 : Int32) (x4 : Int32) (M : Mem) : BL p l e (rmL 1) s m args below meth c LX D cy ad 6 (QI LX D cy ad) 50 [(0, .ref (ad 21)), (1, .int x1), (2, .ref (ad q2)), (3, .int x3), (4, .int x4)] [] M (fX5_isSo_50 n0 q2 k3 x1 x3 x4 M) := by
  unfold fX5_isSo_50
  refine b_iconst hO dX5_isSo_50 ic_i_0 ?_
  exact tfX5_isSo_51 n0 q2 hq2 hO k3 hk3 _ _ _ _ _
theorem tbX5_isSo_3 (n0 : Nat) (q2 : Nat) (hq2 : isK LX q2 13) (hO : OKc p (rmL 1) s m args meth c LX D cy ad cX5_isSo RX5 6 1 (some .boolean)) (k3 : Int32 → Int32 → Int32 → Mem → Option (Int32 × Mem)) (hk3 : ∀ (x1 : Int32) (x3 : Int32) (x4 : Int32) (M : Mem), BL p l e (rmL 1) s m args below meth c LX D cy ad 6 (QI LX D cy ad) 3 [(0, .ref (ad 21)), (1, .int x1), (2, .ref (ad q2)), (3, .int x3), (4, .int x4)] [] M (k3 x1 x3 x4 M)) (x1 : Int32) (x3 : Int32) (x4 : Int32) (M : Mem) : BL p l e (rmL 1) s m args below meth c LX D cy ad 6 (QI LX D cy ad) 3 [(0, .ref (ad 21)), (1, .int x1), (2, .ref (ad q2)), (3, .int x3), (4, .int x4)] [] M (bX5_isSo_3 n0 q2 k3 x1 x3 x4 M) := by
  unfold bX5_isSo_3
  refine b_iload hO dX5_isSo_3 4 rfl ?_
  refine b_aload_n hO dX5_isSo_5 0 rfl rfl ?_
  refine b_get hO flX5_9 kLX_21 (v := .int (gI _ 2688)) rfl dX5_isSo_6 ?_
  refine b_icmp_ge hO dX5_isSo_9 (tgt := 85) (by decide) ?_ ?_
  · refine b_iconst hO dX5_isSo_85 ic_i_1 ?_
    exact b_zretc hO (Or.inr rfl) dX5_isSo_86
  · refine b_aload_n hO dX5_isSo_12 0 rfl rfl ?_
    refine b_get hO flX5_19 kLX_21 (v := .ref (ad 23)) rfl dX5_isSo_13 ?_
    refine b_iload hO dX5_isSo_16 4 rfl ?_
    refine b_iald hO kLX_23 (n := 16) rfl dX5_isSo_18 ?_
    refine b_iload_n hO dX5_isSo_19 1 rfl rfl ?_
    refine b_icmp_ne hO dX5_isSo_20 (tgt := 79) (by decide) ?_ ?_
    · exact tfX5_isSo_79 n0 q2 hq2 hO k3 hk3 _ _ _ _
    · refine b_aload_n hO dX5_isSo_23 0 rfl rfl ?_
      refine b_get hO flX5_15 kLX_21 (v := .ref (ad 22)) rfl dX5_isSo_24 ?_
      refine b_iload hO dX5_isSo_27 4 rfl ?_
      refine b_iald hO kLX_22 (n := 16) rfl dX5_isSo_29 ?_
      refine b_iload_n hO dX5_isSo_30 3 rfl rfl ?_
      refine b_icmp_gt hO dX5_isSo_31 (tgt := 50) (by decide) ?_ ?_
      · exact tfX5_isSo_50 n0 q2 hq2 hO k3 hk3 _ _ _ _
      · refine b_aload_n hO dX5_isSo_34 0 rfl rfl ?_
        refine b_get hO flX5_15 kLX_21 (v := .ref (ad 22)) rfl dX5_isSo_35 ?_
        refine b_iload hO dX5_isSo_38 4 rfl ?_
        refine b_iald hO kLX_22 (n := 16) rfl dX5_isSo_40 ?_
        refine b_aload_n hO dX5_isSo_41 2 rfl rfl ?_
        refine b_alen hO hq2 rfl dX5_isSo_42 ?_
        refine b_icmp_ge hO dX5_isSo_43 (tgt := 50) (by decide) ?_ ?_
        · exact tfX5_isSo_50 n0 q2 hq2 hO k3 hk3 _ _ _ _
        · refine b_iconst hO dX5_isSo_46 ic_i_1 ?_
          refine b_goto hO dX5_isSo_47 (tgt := 51) (by decide) ?_
          exact tfX5_isSo_51 n0 q2 hq2 hO k3 hk3 _ _ _ _ _
theorem lX5_isSo_3 (n0 : Nat) (q2 : Nat) (hq2 : isK LX q2 13) (hO : OKc p (rmL 1) s m args meth c LX D cy ad cX5_isSo RX5 6 1 (some .boolean)) : ∀ (w : Nat) (x1 : Int32) (x3 : Int32) (x4 : Int32) (M : Mem), BL p l e (rmL 1) s m args below meth c LX D cy ad 6 (QI LX D cy ad) 3 [(0, .ref (ad 21)), (1, .int x1), (2, .ref (ad q2)), (3, .int x3), (4, .int x4)] [] M (loopN (bX5_isSo_3 n0 q2) (fun _ _ _ _ => none) w x1 x3 x4 M) := by
  intro w
  induction w with
  | zero =>
    intros
    exact b_none
  | succ w ih =>
    intro x1 x3 x4 M
    exact tbX5_isSo_3 n0 q2 hq2 hO _ ih x1 x3 x4 M
theorem tfX5_isSo_3 (n0 : Nat) (q2 : Nat) (hq2 : isK LX q2 13) (hO : OKc p (rmL 1) s m args meth c LX D cy ad cX5_isSo RX5 6 1 (some .boolean)) (x1 : Int32) (x3 : Int32) (x4 : Int32) (M : Mem) : BL p l e (rmL 1) s m args below meth c LX D cy ad 6 (QI LX D cy ad) 3 [(0, .ref (ad 21)), (1, .int x1), (2, .ref (ad q2)), (3, .int x3), (4, .int x4)] [] M (fX5_isSo_3 n0 q2 x1 x3 x4 M) := lX5_isSo_3 n0 q2 hq2 hO n0 x1 x3 x4 M
theorem tfX5_isSo (n0 : Nat) (q2 : Nat) (hq2 : isK LX q2 13) (hO : OKc p (rmL 1) s m args meth c LX D cy ad cX5_isSo RX5 6 1 (some .boolean)) (x1 : Int32) (x3 : Int32) (M : Mem) : BL p l e (rmL 1) s m args below meth c LX D cy ad 6 (QI LX D cy ad) 0 [(0, .ref (ad 21)), (1, .int x1), (2, .ref (ad q2)), (3, .int x3)] [] M (fX5_isSo n0 q2 x1 x3 M) := by
  unfold fX5_isSo
  refine b_iconst hO dX5_isSo_0 ic_i_0 ?_
  refine b_istore hO dX5_isSo_1 (by decide) (lv' := [(4, .int _), (0, .ref _), (1, .int _), (2, .ref _), (3, .int _)]) rfl ?_
  refine b_sub [1, 2, 3, 4, 0] rfl ?_
  exact tfX5_isSo_3 n0 q2 hq2 hO _ _ _ _
theorem ctX5_isSo (n0 : Nat) (q2 : Nat) (hq2 : isK LX q2 13) (hI : Inj LX ad) (x1 : Int32) (x3 : Int32) (M : Mem) : CT l LX D cy ad yX5_isSo cX5_isSo 6 (some .boolean) 1 (QI LX D cy ad) [.ref (ad 21), .int x1, .ref (ad q2), .int x3] M (fX5_isSo n0 q2 x1 x3 M) :=
  CT.mk LXok hI (by decide) (Nat.le_of_ble_eq_true rfl) (fun hO => tfX5_isSo n0 q2 hq2 hO x1 x3 M)
/-! X5_noteHours -/
def bX5_noteHours_14 (n0 : Nat) (q2 : Nat) (k14 : Int32 → Int32 → Int32 → Mem → Option (Mem)) (x1 : Int32) (x3 : Int32) (x4 : Int32) (M : Mem) : Option (Mem) :=
  if x3 < x4 then
    some M
  else
    if (40 : Int32) < x4 then
      some M
    else
      if (Int32.ofNat (LX.ln q2)) ≤ x4 then
        some M
      else
        if oob x1 7 then none else
        if oob x4 (LX.ln q2) then none else
        if oob x4 (LX.ln (83 + Int32.toNatClampNeg x1)) then none else
        bnd (sA M (83 + Int32.toNatClampNeg x1) (Int32.toNatClampNeg x4) (gA M q2 (Int32.toNatClampNeg x4))) fun M46 =>
        k14 x1 x3 (x4 + (1 : Int32)) M46
def fX5_noteHours_14 (n0 : Nat) (q2 : Nat) : Int32 → Int32 → Int32 → Mem → Option (Mem) := loopN (bX5_noteHours_14 n0 q2) (fun _ _ _ _ => none) n0
def fX5_noteHours (n0 : Nat) (q2 : Nat) (x1 : Int32) (x3 : Int32) (M : Mem) : Option (Mem) :=
  if x1 < 0 then
    some M
  else
    if x1 < (7 : Int32) then
      fX5_noteHours_14 n0 q2 x1 x3 (0 : Int32) M
    else
      some M
theorem tbX5_noteHours_14 (n0 : Nat) (q2 : Nat) (hq2 : isK LX q2 13) (hO : OKc p (rmL 1) s m args meth c LX D cy ad cX5_noteHours RX5 5 1 none) (k14 : Int32 → Int32 → Int32 → Mem → Option (Mem)) (hk14 : ∀ (x1 : Int32) (x3 : Int32) (x4 : Int32) (M : Mem), BL p l e (rmL 1) s m args below meth c LX D cy ad 5 (QV LX D cy ad) 14 [(0, .ref (ad 21)), (1, .int x1), (2, .ref (ad q2)), (3, .int x3), (4, .int x4)] [] M (k14 x1 x3 x4 M)) (x1 : Int32) (x3 : Int32) (x4 : Int32) (M : Mem) : BL p l e (rmL 1) s m args below meth c LX D cy ad 5 (QV LX D cy ad) 14 [(0, .ref (ad 21)), (1, .int x1), (2, .ref (ad q2)), (3, .int x3), (4, .int x4)] [] M (bX5_noteHours_14 n0 q2 k14 x1 x3 x4 M) := by
  unfold bX5_noteHours_14
  refine b_iload hO dX5_noteHours_14 4 rfl ?_
  refine b_iload_n hO dX5_noteHours_16 3 rfl rfl ?_
  refine b_icmp_gt hO dX5_noteHours_17 (tgt := 53) (by decide) ?_ ?_
  · exact b_vret hO dX5_noteHours_53
  · refine b_iload hO dX5_noteHours_20 4 rfl ?_
    refine b_bipush hO dX5_noteHours_22 ic_b_40 ?_
    refine b_icmp_gt hO dX5_noteHours_24 (tgt := 53) (by decide) ?_ ?_
    · exact b_vret hO dX5_noteHours_53
    · refine b_iload hO dX5_noteHours_27 4 rfl ?_
      refine b_aload_n hO dX5_noteHours_29 2 rfl rfl ?_
      refine b_alen hO hq2 rfl dX5_noteHours_30 ?_
      refine b_icmp_ge hO dX5_noteHours_31 (tgt := 53) (by decide) ?_ ?_
      · exact b_vret hO dX5_noteHours_53
      · refine b_aload_n hO dX5_noteHours_34 0 rfl rfl ?_
        refine b_get hO flX5_27 kLX_21 (v := .ref (ad 25)) rfl dX5_noteHours_35 ?_
        refine b_iload_n hO dX5_noteHours_38 1 rfl rfl ?_
        refine b_aald hO kLX_25 (n := 7) rfl (b := 83) rfl dX5_noteHours_39 kg_25 (fun hg1 => ?_)
        refine b_iload hO dX5_noteHours_40 4 rfl ?_
        refine b_aload_n hO dX5_noteHours_42 2 rfl rfl ?_
        refine b_iload hO dX5_noteHours_43 4 rfl ?_
        refine b_iald hO hq2 (n := (LX.ln q2)) rfl dX5_noteHours_45 ?_
        refine b_iast hO hg1 (n := (LX.ln (83 + Int32.toNatClampNeg x1))) rfl dX5_noteHours_46 ?_
        refine b_bnd (fun M46 => ?_)
        refine b_iinc hO dX5_noteHours_47 4 rfl ic_i_1 (by decide) (lv' := [(4, .int _), (0, .ref _), (1, .int _), (2, .ref _), (3, .int _)]) rfl ?_
        refine b_goto hO dX5_noteHours_50 (tgt := 14) (by decide) ?_
        refine b_sub [1, 2, 3, 4, 0] rfl ?_
        exact hk14 _ _ _ _
theorem lX5_noteHours_14 (n0 : Nat) (q2 : Nat) (hq2 : isK LX q2 13) (hO : OKc p (rmL 1) s m args meth c LX D cy ad cX5_noteHours RX5 5 1 none) : ∀ (w : Nat) (x1 : Int32) (x3 : Int32) (x4 : Int32) (M : Mem), BL p l e (rmL 1) s m args below meth c LX D cy ad 5 (QV LX D cy ad) 14 [(0, .ref (ad 21)), (1, .int x1), (2, .ref (ad q2)), (3, .int x3), (4, .int x4)] [] M (loopN (bX5_noteHours_14 n0 q2) (fun _ _ _ _ => none) w x1 x3 x4 M) := by
  intro w
  induction w with
  | zero =>
    intros
    exact b_none
  | succ w ih =>
    intro x1 x3 x4 M
    exact tbX5_noteHours_14 n0 q2 hq2 hO _ ih x1 x3 x4 M
theorem tfX5_noteHours_14 (n0 : Nat) (q2 : Nat) (hq2 : isK LX q2 13) (hO : OKc p (rmL 1) s m args meth c LX D cy ad cX5_noteHours RX5 5 1 none) (x1 : Int32) (x3 : Int32) (x4 : Int32) (M : Mem) : BL p l e (rmL 1) s m args below meth c LX D cy ad 5 (QV LX D cy ad) 14 [(0, .ref (ad 21)), (1, .int x1), (2, .ref (ad q2)), (3, .int x3), (4, .int x4)] [] M (fX5_noteHours_14 n0 q2 x1 x3 x4 M) := lX5_noteHours_14 n0 q2 hq2 hO n0 x1 x3 x4 M
theorem tfX5_noteHours (n0 : Nat) (q2 : Nat) (hq2 : isK LX q2 13) (hO : OKc p (rmL 1) s m args meth c LX D cy ad cX5_noteHours RX5 5 1 none) (x1 : Int32) (x3 : Int32) (M : Mem) : BL p l e (rmL 1) s m args below meth c LX D cy ad 5 (QV LX D cy ad) 0 [(0, .ref (ad 21)), (1, .int x1), (2, .ref (ad q2)), (3, .int x3)] [] M (fX5_noteHours n0 q2 x1 x3 M) := by
  unfold fX5_noteHours
  refine b_iload_n hO dX5_noteHours_0 1 rfl rfl ?_
  refine b_if_lt hO dX5_noteHours_1 (tgt := 10) (by decide) ?_ ?_
  · exact b_vret hO dX5_noteHours_10
  · refine b_iload_n hO dX5_noteHours_4 1 rfl rfl ?_
    refine b_bipush hO dX5_noteHours_5 ic_b_7 ?_
    refine b_icmp_lt hO dX5_noteHours_7 (tgt := 11) (by decide) ?_ ?_
    · refine b_iconst hO dX5_noteHours_11 ic_i_0 ?_
      refine b_istore hO dX5_noteHours_12 (by decide) (lv' := [(4, .int _), (0, .ref _), (1, .int _), (2, .ref _), (3, .int _)]) rfl ?_
      refine b_sub [1, 2, 3, 4, 0] rfl ?_
      exact tfX5_noteHours_14 n0 q2 hq2 hO _ _ _ _
    · exact b_vret hO dX5_noteHours_10
theorem ctX5_noteHours (n0 : Nat) (q2 : Nat) (hq2 : isK LX q2 13) (hI : Inj LX ad) (x1 : Int32) (x3 : Int32) (M : Mem) : CT l LX D cy ad yX5_noteHours cX5_noteHours 5 none 1 (QV LX D cy ad) [.ref (ad 21), .int x1, .ref (ad q2), .int x3] M (fX5_noteHours n0 q2 x1 x3 M) :=
  CT.mk LXok hI (by decide) (Nat.le_of_ble_eq_true rfl) (fun hO => tfX5_noteHours n0 q2 hq2 hO x1 x3 M)
/-! X5_mostLeft -/
def fX5_mostLeft_93 (n0 : Nat) (k17 : Int32 → Int32 → Int32 → Int32 → Mem → Option (Int32 × Mem)) (k30 : Int32 → Int32 → Int32 → Int32 → Int32 → Int32 → Mem → Option (Int32 × Mem)) (x1 : Int32) (x2 : Int32) (x3 : Int32) (x4 : Int32) (x5 : Int32) (x6 : Int32) (M : Mem) : Option (Int32 × Mem) :=
  k30 x1 x2 x3 x4 x5 (x6 + (1 : Int32)) M
def fX5_mostLeft_62 (n0 : Nat) (k17 : Int32 → Int32 → Int32 → Int32 → Mem → Option (Int32 × Mem)) (k30 : Int32 → Int32 → Int32 → Int32 → Int32 → Int32 → Mem → Option (Int32 × Mem)) (x1 : Int32) (x2 : Int32) (x3 : Int32) (x4 : Int32) (x5 : Int32) (x6 : Int32) (u0 : Int32) (M : Mem) : Option (Int32 × Mem) :=
  if u0 = 0 then
    fX5_mostLeft_93 n0 k17 k30 x1 x2 x3 x4 x5 x6 M
  else
    if oob x4 7 then none else
    if oob x2 (LX.ln (83 + Int32.toNatClampNeg x4)) then none else
    if oob x6 7 then none else
    if oob x2 (LX.ln (83 + Int32.toNatClampNeg x6)) then none else
    if (gA M (83 + Int32.toNatClampNeg x4) (Int32.toNatClampNeg x2)) = (gA M (83 + Int32.toNatClampNeg x6) (Int32.toNatClampNeg x2)) then
      fX5_mostLeft_93 n0 k17 k30 x1 x2 x3 x4 (x5 + (1 : Int32)) x6 M
    else
      fX5_mostLeft_93 n0 k17 k30 x1 x2 x3 x4 x5 x6 M
def fX5_mostLeft_61 (n0 : Nat) (k17 : Int32 → Int32 → Int32 → Int32 → Mem → Option (Int32 × Mem)) (k30 : Int32 → Int32 → Int32 → Int32 → Int32 → Int32 → Mem → Option (Int32 × Mem)) (x1 : Int32) (x2 : Int32) (x3 : Int32) (x4 : Int32) (x5 : Int32) (x6 : Int32) (M : Mem) : Option (Int32 × Mem) :=
  fX5_mostLeft_62 n0 k17 k30 x1 x2 x3 x4 x5 x6 (0 : Int32) M
def bX5_mostLeft_30 (n0 : Nat) (k17 : Int32 → Int32 → Int32 → Int32 → Mem → Option (Int32 × Mem)) (k30 : Int32 → Int32 → Int32 → Int32 → Int32 → Int32 → Mem → Option (Int32 × Mem)) (x1 : Int32) (x2 : Int32) (x3 : Int32) (x4 : Int32) (x5 : Int32) (x6 : Int32) (M : Mem) : Option (Int32 × Mem) :=
  if (7 : Int32) ≤ x6 then
    bnd (imax x3 x5) fun x3_105 =>
    k17 x1 x2 x3_105 (x4 + (1 : Int32)) M
  else
    if ((x1 >>> (x4 &&& 31)) &&& (1 : Int32)) = (1 : Int32) then
      if ((x1 >>> (x6 &&& 31)) &&& (1 : Int32)) = (1 : Int32) then
        fX5_mostLeft_62 n0 k17 k30 x1 x2 x3 x4 x5 x6 (1 : Int32) M
      else
        fX5_mostLeft_61 n0 k17 k30 x1 x2 x3 x4 x5 x6 M
    else
      fX5_mostLeft_61 n0 k17 k30 x1 x2 x3 x4 x5 x6 M
def fX5_mostLeft_30 (n0 : Nat) (k17 : Int32 → Int32 → Int32 → Int32 → Mem → Option (Int32 × Mem)) : Int32 → Int32 → Int32 → Int32 → Int32 → Int32 → Mem → Option (Int32 × Mem) := loopN (bX5_mostLeft_30 n0 k17) (fun _ _ _ _ _ _ _ => none) n0
def bX5_mostLeft_17 (n0 : Nat) (k17 : Int32 → Int32 → Int32 → Int32 → Mem → Option (Int32 × Mem)) (x1 : Int32) (x2 : Int32) (x3 : Int32) (x4 : Int32) (M : Mem) : Option (Int32 × Mem) :=
  if (7 : Int32) ≤ x4 then
    some (x3, M)
  else
    fX5_mostLeft_30 n0 k17 x1 x2 x3 x4 (0 : Int32) (0 : Int32) M
def fX5_mostLeft_17 (n0 : Nat) : Int32 → Int32 → Int32 → Int32 → Mem → Option (Int32 × Mem) := loopN (bX5_mostLeft_17 n0) (fun _ _ _ _ _ => none) n0
def fX5_mostLeft (n0 : Nat) (x1 : Int32) (x2 : Int32) (M : Mem) : Option (Int32 × Mem) :=
  if x2 < 0 then
    some ((0 : Int32), M)
  else
    if x2 ≤ (40 : Int32) then
      fX5_mostLeft_17 n0 x1 x2 (0 : Int32) (0 : Int32) M
    else
      some ((0 : Int32), M)
theorem tfX5_mostLeft_93 (n0 : Nat) (hO : OKc p (rmL 1) s m args meth c LX D cy ad cX5_mostLeft RX5 8 1 (some .int)) (k17 : Int32 → Int32 → Int32 → Int32 → Mem → Option (Int32 × Mem)) (k30 : Int32 → Int32 → Int32 → Int32 → Int32 → Int32 → Mem → Option (Int32 × Mem)) (hk17 : ∀ (x1 : Int32) (x2 : Int32) (x3 : Int32) (x4 : Int32) (M : Mem), BL p l e (rmL 1) s m args below meth c LX D cy ad 8 (QI LX D cy ad) 17 [(0, .ref (ad 21)), (1, .int x1), (2, .int x2), (3, .int x3), (4, .int x4)] [] M (k17 x1 x2 x3 x4 M)) (hk30 : ∀ (x1 : Int32) (x2 : Int32) (x3 : Int32) (x4 : Int32) (x5 : Int32) (x6 : Int32) (M : Mem), BL p l e (rmL 1) s m args below meth c LX D cy ad 8 (QI LX D cy ad) 30 [(0, .ref (ad 21)), (1, .int x1), (2, .int x2), (3, .int x3), (4, .int x4), (5, .int x5), (6, .int x6)] [] M (k30 x1 x2 x3 x4 x5 x6 M)) (x1 : Int32) (x2 : Int32) (x3 : Int32) (x4 : Int32) (x5 : Int32) (x6 : Int32) (M : Mem) : BL p l e (rmL 1) s m args below meth c LX D cy ad 8 (QI LX D cy ad) 93 [(0, .ref (ad 21)), (1, .int x1), (2, .int x2), (3, .int x3), (4, .int x4), (5, .int x5), (6, .int x6)] [] M (fX5_mostLeft_93 n0 k17 k30 x1 x2 x3 x4 x5 x6 M) := by
  unfold fX5_mostLeft_93
  refine b_iinc hO dX5_mostLeft_93 6 rfl ic_i_1 (by decide) (lv' := [(6, .int _), (0, .ref _), (1, .int _), (2, .int _), (3, .int _), (4, .int _), (5, .int _)]) rfl ?_
  refine b_goto hO dX5_mostLeft_96 (tgt := 30) (by decide) ?_
  refine b_sub [1, 2, 3, 4, 5, 6, 0] rfl ?_
  exact hk30 _ _ _ _ _ _ _
theorem tfX5_mostLeft_62 (n0 : Nat) (hO : OKc p (rmL 1) s m args meth c LX D cy ad cX5_mostLeft RX5 8 1 (some .int)) (k17 : Int32 → Int32 → Int32 → Int32 → Mem → Option (Int32 × Mem)) (k30 : Int32 → Int32 → Int32 → Int32 → Int32 → Int32 → Mem → Option (Int32 × Mem)) (hk17 : ∀ (x1 : Int32) (x2 : Int32) (x3 : Int32) (x4 : Int32) (M : Mem), BL p l e (rmL 1) s m args below meth c LX D cy ad 8 (QI LX D cy ad) 17 [(0, .ref (ad 21)), (1, .int x1), (2, .int x2), (3, .int x3), (4, .int x4)] [] M (k17 x1 x2 x3 x4 M)) (hk30 : ∀ (x1 : Int32) (x2 : Int32) (x3 : Int32) (x4 : Int32) (x5 : Int32) (x6 : Int32) (M : Mem), BL p l e (rmL 1) s m args below meth c LX D cy ad 8 (QI LX D cy ad) 30 [(0, .ref (ad 21)), (1, .int x1), (2, .int x2), (3, .int x3), (4, .int x4), (5, .int x5), (6, .int x6)] [] M (k30 x1 x2 x3 x4 x5 x6 M)) (x1 : Int32) (x2 : Int32) (x3 : Int32) (x4 : Int32) (x5 : Int32) (x6 : Int32) (u0 : Int32) (M : Mem) : BL p l e (rmL 1) s m args below meth c LX D cy ad 8 (QI LX D cy ad) 62 [(0, .ref (ad 21)), (1, .int x1), (2, .int x2), (3, .int x3), (4, .int x4), (5, .int x5), (6, .int x6)] [.int u0] M (fX5_mostLeft_62 n0 k17 k30 x1 x2 x3 x4 x5 x6 u0 M) := by
  unfold fX5_mostLeft_62
  refine b_istore hO dX5_mostLeft_62 (by decide) (lv' := [(7, .int _), (0, .ref _), (1, .int _), (2, .int _), (3, .int _), (4, .int _), (5, .int _), (6, .int _)]) rfl ?_
  refine b_iload hO dX5_mostLeft_64 0 rfl ?_
  refine b_if_eq hO dX5_mostLeft_66 (tgt := 93) (by decide) ?_ ?_
  · refine b_sub [1, 2, 3, 4, 5, 6, 7] rfl ?_
    exact tfX5_mostLeft_93 n0 hO k17 k30 hk17 hk30 _ _ _ _ _ _ _
  · refine b_aload_n hO dX5_mostLeft_69 1 rfl rfl ?_
    refine b_get hO flX5_27 kLX_21 (v := .ref (ad 25)) rfl dX5_mostLeft_70 ?_
    refine b_iload hO dX5_mostLeft_73 5 rfl ?_
    refine b_aald hO kLX_25 (n := 7) rfl (b := 83) rfl dX5_mostLeft_75 kg_25 (fun hg1 => ?_)
    refine b_iload_n hO dX5_mostLeft_76 3 rfl rfl ?_
    refine b_iald hO hg1 (n := (LX.ln (83 + Int32.toNatClampNeg x4))) rfl dX5_mostLeft_77 ?_
    refine b_aload_n hO dX5_mostLeft_78 1 rfl rfl ?_
    refine b_get hO flX5_27 kLX_21 (v := .ref (ad 25)) rfl dX5_mostLeft_79 ?_
    refine b_iload hO dX5_mostLeft_82 7 rfl ?_
    refine b_aald hO kLX_25 (n := 7) rfl (b := 83) rfl dX5_mostLeft_84 kg_25 (fun hg2 => ?_)
    refine b_iload_n hO dX5_mostLeft_85 3 rfl rfl ?_
    refine b_iald hO hg2 (n := (LX.ln (83 + Int32.toNatClampNeg x6))) rfl dX5_mostLeft_86 ?_
    refine b_icmp_ne hO dX5_mostLeft_87 (tgt := 93) (by decide) ?_ ?_
    · refine b_sub [1, 2, 3, 4, 5, 6, 7] rfl ?_
      exact tfX5_mostLeft_93 n0 hO k17 k30 hk17 hk30 _ _ _ _ _ _ _
    · refine b_iinc hO dX5_mostLeft_90 6 rfl ic_i_1 (by decide) (lv' := [(5, .int _), (7, .int _), (0, .ref _), (1, .int _), (2, .int _), (3, .int _), (4, .int _), (6, .int _)]) rfl ?_
      refine b_sub [2, 3, 4, 5, 6, 0, 7] rfl ?_
      exact tfX5_mostLeft_93 n0 hO k17 k30 hk17 hk30 _ _ _ _ _ _ _
theorem tfX5_mostLeft_61 (n0 : Nat) (hO : OKc p (rmL 1) s m args meth c LX D cy ad cX5_mostLeft RX5 8 1 (some .int)) (k17 : Int32 → Int32 → Int32 → Int32 → Mem → Option (Int32 × Mem)) (k30 : Int32 → Int32 → Int32 → Int32 → Int32 → Int32 → Mem → Option (Int32 × Mem)) (hk17 : ∀ (x1 : Int32) (x2 : Int32) (x3 : Int32) (x4 : Int32) (M : Mem), BL p l e (rmL 1) s m args below meth c LX D cy ad 8 (QI LX D cy ad) 17 [(0, .ref (ad 21)), (1, .int x1), (2, .int x2), (3, .int x3), (4, .int x4)] [] M (k17 x1 x2 x3 x4 M)) (hk30 : ∀ (x1 : Int32) (x2 : Int32) (x3 : Int32) (x4 : Int32) (x5 : Int32) (x6 : Int32) (M : Mem), BL p l e (rmL 1) s m args below meth c LX D cy ad 8 (QI LX D cy ad) 30 [(0, .ref (ad 21)), (1, .int x1), (2, .int x2), (3, .int x3), (4, .int x4), (5, .int x5), (6, .int x6)] [] M (k30 x1 x2 x3 x4 x5 x6 M)) (x1 : Int32) (x2 : Int32) (x3 : Int32) (x4 : Int32) (x5 : Int32) (x6 : Int32) (M : Mem) : BL p l e (rmL 1) s m args below meth c LX D cy ad 8 (QI LX D cy ad) 61 [(0, .ref (ad 21)), (1, .int x1), (2, .int x2), (3, .int x3), (4, .int x4), (5, .int x5), (6, .int x6)] [] M (fX5_mostLeft_61 n0 k17 k30 x1 x2 x3 x4 x5 x6 M) := by
  unfold fX5_mostLeft_61
  refine b_iconst hO dX5_mostLeft_61 ic_i_0 ?_
  exact tfX5_mostLeft_62 n0 hO k17 k30 hk17 hk30 _ _ _ _ _ _ _ _
theorem tbX5_mostLeft_30 (n0 : Nat) (hO : OKc p (rmL 1) s m args meth c LX D cy ad cX5_mostLeft RX5 8 1 (some .int)) (k17 : Int32 → Int32 → Int32 → Int32 → Mem → Option (Int32 × Mem)) (k30 : Int32 → Int32 → Int32 → Int32 → Int32 → Int32 → Mem → Option (Int32 × Mem)) (hk17 : ∀ (x1 : Int32) (x2 : Int32) (x3 : Int32) (x4 : Int32) (M : Mem), BL p l e (rmL 1) s m args below meth c LX D cy ad 8 (QI LX D cy ad) 17 [(0, .ref (ad 21)), (1, .int x1), (2, .int x2), (3, .int x3), (4, .int x4)] [] M (k17 x1 x2 x3 x4 M)) (hk30 : ∀ (x1 : Int32) (x2 : Int32) (x3 : Int32) (x4 : Int32) (x5 : Int32) (x6 : Int32) (M : Mem), BL p l e (rmL 1) s m args below meth c LX D cy ad 8 (QI LX D cy ad) 30 [(0, .ref (ad 21)), (1, .int x1), (2, .int x2), (3, .int x3), (4, .int x4), (5, .int x5), (6, .int x6)] [] M (k30 x1 x2 x3 x4 x5 x6 M)) (x1 : Int32) (x2 : Int32) (x3 : Int32) (x4 : Int32) (x5 : Int32) (x6 : Int32) (M : Mem) : BL p l e (rmL 1) s m args below meth c LX D cy ad 8 (QI LX D cy ad) 30 [(0, .ref (ad 21)), (1, .int x1), (2, .int x2), (3, .int x3), (4, .int x4), (5, .int x5), (6, .int x6)] [] M (bX5_mostLeft_30 n0 k17 k30 x1 x2 x3 x4 x5 x6 M) := by
  unfold bX5_mostLeft_30
  refine b_iload hO dX5_mostLeft_30 6 rfl ?_
  refine b_bipush hO dX5_mostLeft_32 ic_b_7 ?_
  refine b_icmp_ge hO dX5_mostLeft_34 (tgt := 99) (by decide) ?_ ?_
  · refine b_iload_n hO dX5_mostLeft_99 3 rfl rfl ?_
    refine b_iload hO dX5_mostLeft_100 5 rfl ?_
    refine b_mmax hO w1123 w594 w136 wm595 (by first | decide | omega) (Nat.le_of_ble_eq_true rfl) dX5_mostLeft_102 ?_
    refine b_topI (fun x3_105 => ?_)
    refine b_istore_n hO dX5_mostLeft_105 rfl (by decide) (lv' := [(3, .int _), (0, .ref _), (1, .int _), (2, .int _), (4, .int _), (5, .int _), (6, .int _)]) rfl ?_
    refine b_iinc hO dX5_mostLeft_106 4 rfl ic_i_1 (by decide) (lv' := [(4, .int _), (3, .int _), (0, .ref _), (1, .int _), (2, .int _), (5, .int _), (6, .int _)]) rfl ?_
    refine b_goto hO dX5_mostLeft_109 (tgt := 17) (by decide) ?_
    refine b_sub [2, 3, 4, 1, 0] rfl ?_
    exact hk17 _ _ _ _ _
  · refine b_iload_n hO dX5_mostLeft_37 1 rfl rfl ?_
    refine b_iload hO dX5_mostLeft_38 4 rfl ?_
    refine b_ishr hO dX5_mostLeft_40 ?_
    refine b_iconst hO dX5_mostLeft_41 ic_i_1 ?_
    refine b_iand hO dX5_mostLeft_42 ?_
    refine b_iconst hO dX5_mostLeft_43 ic_i_1 ?_
    refine b_icmp_ne hO dX5_mostLeft_44 (tgt := 61) (by decide) ?_ ?_
    · exact tfX5_mostLeft_61 n0 hO k17 k30 hk17 hk30 _ _ _ _ _ _ _
    · refine b_iload_n hO dX5_mostLeft_47 1 rfl rfl ?_
      refine b_iload hO dX5_mostLeft_48 6 rfl ?_
      refine b_ishr hO dX5_mostLeft_50 ?_
      refine b_iconst hO dX5_mostLeft_51 ic_i_1 ?_
      refine b_iand hO dX5_mostLeft_52 ?_
      refine b_iconst hO dX5_mostLeft_53 ic_i_1 ?_
      refine b_icmp_ne hO dX5_mostLeft_54 (tgt := 61) (by decide) ?_ ?_
      · exact tfX5_mostLeft_61 n0 hO k17 k30 hk17 hk30 _ _ _ _ _ _ _
      · refine b_iconst hO dX5_mostLeft_57 ic_i_1 ?_
        refine b_goto hO dX5_mostLeft_58 (tgt := 62) (by decide) ?_
        exact tfX5_mostLeft_62 n0 hO k17 k30 hk17 hk30 _ _ _ _ _ _ _ _
theorem lX5_mostLeft_30 (n0 : Nat) (hO : OKc p (rmL 1) s m args meth c LX D cy ad cX5_mostLeft RX5 8 1 (some .int)) (k17 : Int32 → Int32 → Int32 → Int32 → Mem → Option (Int32 × Mem)) (hk17 : ∀ (x1 : Int32) (x2 : Int32) (x3 : Int32) (x4 : Int32) (M : Mem), BL p l e (rmL 1) s m args below meth c LX D cy ad 8 (QI LX D cy ad) 17 [(0, .ref (ad 21)), (1, .int x1), (2, .int x2), (3, .int x3), (4, .int x4)] [] M (k17 x1 x2 x3 x4 M)) : ∀ (w : Nat) (x1 : Int32) (x2 : Int32) (x3 : Int32) (x4 : Int32) (x5 : Int32) (x6 : Int32) (M : Mem), BL p l e (rmL 1) s m args below meth c LX D cy ad 8 (QI LX D cy ad) 30 [(0, .ref (ad 21)), (1, .int x1), (2, .int x2), (3, .int x3), (4, .int x4), (5, .int x5), (6, .int x6)] [] M (loopN (bX5_mostLeft_30 n0 k17) (fun _ _ _ _ _ _ _ => none) w x1 x2 x3 x4 x5 x6 M) := by
  intro w
  induction w with
  | zero =>
    intros
    exact b_none
  | succ w ih =>
    intro x1 x2 x3 x4 x5 x6 M
    exact tbX5_mostLeft_30 n0 hO k17 _ hk17 ih x1 x2 x3 x4 x5 x6 M
theorem tfX5_mostLeft_30 (n0 : Nat) (hO : OKc p (rmL 1) s m args meth c LX D cy ad cX5_mostLeft RX5 8 1 (some .int)) (k17 : Int32 → Int32 → Int32 → Int32 → Mem → Option (Int32 × Mem)) (hk17 : ∀ (x1 : Int32) (x2 : Int32) (x3 : Int32) (x4 : Int32) (M : Mem), BL p l e (rmL 1) s m args below meth c LX D cy ad 8 (QI LX D cy ad) 17 [(0, .ref (ad 21)), (1, .int x1), (2, .int x2), (3, .int x3), (4, .int x4)] [] M (k17 x1 x2 x3 x4 M)) (x1 : Int32) (x2 : Int32) (x3 : Int32) (x4 : Int32) (x5 : Int32) (x6 : Int32) (M : Mem) : BL p l e (rmL 1) s m args below meth c LX D cy ad 8 (QI LX D cy ad) 30 [(0, .ref (ad 21)), (1, .int x1), (2, .int x2), (3, .int x3), (4, .int x4), (5, .int x5), (6, .int x6)] [] M (fX5_mostLeft_30 n0 k17 x1 x2 x3 x4 x5 x6 M) := lX5_mostLeft_30 n0 hO k17 hk17 n0 x1 x2 x3 x4 x5 x6 M
theorem tbX5_mostLeft_17 (n0 : Nat) (hO : OKc p (rmL 1) s m args meth c LX D cy ad cX5_mostLeft RX5 8 1 (some .int)) (k17 : Int32 → Int32 → Int32 → Int32 → Mem → Option (Int32 × Mem)) (hk17 : ∀ (x1 : Int32) (x2 : Int32) (x3 : Int32) (x4 : Int32) (M : Mem), BL p l e (rmL 1) s m args below meth c LX D cy ad 8 (QI LX D cy ad) 17 [(0, .ref (ad 21)), (1, .int x1), (2, .int x2), (3, .int x3), (4, .int x4)] [] M (k17 x1 x2 x3 x4 M)) (x1 : Int32) (x2 : Int32) (x3 : Int32) (x4 : Int32) (M : Mem) : BL p l e (rmL 1) s m args below meth c LX D cy ad 8 (QI LX D cy ad) 17 [(0, .ref (ad 21)), (1, .int x1), (2, .int x2), (3, .int x3), (4, .int x4)] [] M (bX5_mostLeft_17 n0 k17 x1 x2 x3 x4 M) := by
  unfold bX5_mostLeft_17
  refine b_iload hO dX5_mostLeft_17 4 rfl ?_
  refine b_bipush hO dX5_mostLeft_19 ic_b_7 ?_
  refine b_icmp_ge hO dX5_mostLeft_21 (tgt := 112) (by decide) ?_ ?_
  · refine b_iload_n hO dX5_mostLeft_112 3 rfl rfl ?_
    exact b_iret hO dX5_mostLeft_113
  · refine b_iconst hO dX5_mostLeft_24 ic_i_0 ?_
    refine b_istore hO dX5_mostLeft_25 (by decide) (lv' := [(5, .int _), (0, .ref _), (1, .int _), (2, .int _), (3, .int _), (4, .int _)]) rfl ?_
    refine b_iconst hO dX5_mostLeft_27 ic_i_0 ?_
    refine b_istore hO dX5_mostLeft_28 (by decide) (lv' := [(6, .int _), (5, .int _), (0, .ref _), (1, .int _), (2, .int _), (3, .int _), (4, .int _)]) rfl ?_
    refine b_sub [2, 3, 4, 5, 6, 1, 0] rfl ?_
    exact tfX5_mostLeft_30 n0 hO k17 hk17 _ _ _ _ _ _ _
theorem lX5_mostLeft_17 (n0 : Nat) (hO : OKc p (rmL 1) s m args meth c LX D cy ad cX5_mostLeft RX5 8 1 (some .int)) : ∀ (w : Nat) (x1 : Int32) (x2 : Int32) (x3 : Int32) (x4 : Int32) (M : Mem), BL p l e (rmL 1) s m args below meth c LX D cy ad 8 (QI LX D cy ad) 17 [(0, .ref (ad 21)), (1, .int x1), (2, .int x2), (3, .int x3), (4, .int x4)] [] M (loopN (bX5_mostLeft_17 n0) (fun _ _ _ _ _ => none) w x1 x2 x3 x4 M) := by
  intro w
  induction w with
  | zero =>
    intros
    exact b_none
  | succ w ih =>
    intro x1 x2 x3 x4 M
    exact tbX5_mostLeft_17 n0 hO _ ih x1 x2 x3 x4 M
theorem tfX5_mostLeft_17 (n0 : Nat) (hO : OKc p (rmL 1) s m args meth c LX D cy ad cX5_mostLeft RX5 8 1 (some .int)) (x1 : Int32) (x2 : Int32) (x3 : Int32) (x4 : Int32) (M : Mem) : BL p l e (rmL 1) s m args below meth c LX D cy ad 8 (QI LX D cy ad) 17 [(0, .ref (ad 21)), (1, .int x1), (2, .int x2), (3, .int x3), (4, .int x4)] [] M (fX5_mostLeft_17 n0 x1 x2 x3 x4 M) := lX5_mostLeft_17 n0 hO n0 x1 x2 x3 x4 M
theorem tfX5_mostLeft (n0 : Nat) (hO : OKc p (rmL 1) s m args meth c LX D cy ad cX5_mostLeft RX5 8 1 (some .int)) (x1 : Int32) (x2 : Int32) (M : Mem) : BL p l e (rmL 1) s m args below meth c LX D cy ad 8 (QI LX D cy ad) 0 [(0, .ref (ad 21)), (1, .int x1), (2, .int x2)] [] M (fX5_mostLeft n0 x1 x2 M) := by
  unfold fX5_mostLeft
  refine b_iload_n hO dX5_mostLeft_0 2 rfl rfl ?_
  refine b_if_lt hO dX5_mostLeft_1 (tgt := 10) (by decide) ?_ ?_
  · refine b_iconst hO dX5_mostLeft_10 ic_i_0 ?_
    exact b_iret hO dX5_mostLeft_11
  · refine b_iload_n hO dX5_mostLeft_4 2 rfl rfl ?_
    refine b_bipush hO dX5_mostLeft_5 ic_b_40 ?_
    refine b_icmp_le hO dX5_mostLeft_7 (tgt := 12) (by decide) ?_ ?_
    · refine b_iconst hO dX5_mostLeft_12 ic_i_0 ?_
      refine b_istore_n hO dX5_mostLeft_13 rfl (by decide) (lv' := [(3, .int _), (0, .ref _), (1, .int _), (2, .int _)]) rfl ?_
      refine b_iconst hO dX5_mostLeft_14 ic_i_0 ?_
      refine b_istore hO dX5_mostLeft_15 (by decide) (lv' := [(4, .int _), (3, .int _), (0, .ref _), (1, .int _), (2, .int _)]) rfl ?_
      refine b_sub [2, 3, 4, 1, 0] rfl ?_
      exact tfX5_mostLeft_17 n0 hO _ _ _ _ _
    · refine b_iconst hO dX5_mostLeft_10 ic_i_0 ?_
      exact b_iret hO dX5_mostLeft_11
theorem ctX5_mostLeft (n0 : Nat) (hI : Inj LX ad) (x1 : Int32) (x2 : Int32) (M : Mem) : CT l LX D cy ad yX5_mostLeft cX5_mostLeft 8 (some .int) 1 (QI LX D cy ad) [.ref (ad 21), .int x1, .int x2] M (fX5_mostLeft n0 x1 x2 M) :=
  CT.mk LXok hI (by decide) (Nat.le_of_ble_eq_true rfl) (fun hO => tfX5_mostLeft n0 hO x1 x2 M)
end
end
section
section
variable {p : Program} {l : Launch} {e : Env} {s : State} {m : MethodId} {args : Array Value} {below : List Frame} {meth : Method} {c : Code} {D : va_G} {cy : Nat → ClassId} {ad : Nat → Nat} {dd : Nat}

/-! X10_shorten -/
def fX10_shorten (n0 : Nat) (x1 : Int32) (x2 : Int32) (x3 : Int32) (M : Mem) : Option (Mem) :=
  if oob x2 5 then none else
  if oob x1 5 then none else
  if oob x2 5 then none else
  some (sA M 19 (Int32.toNatClampNeg x2) (imin (gA M 19 (Int32.toNatClampNeg x2)) ((gA M 19 (Int32.toNatClampNeg x1)) + x3)))
theorem tfX10_shorten (n0 : Nat) (hO : OKc p (rmL 1) s m args meth c LX D cy ad cX10_shorten RX10 4 1 none) (x1 : Int32) (x2 : Int32) (x3 : Int32) (M : Mem) : BL p l e (rmL 1) s m args below meth c LX D cy ad 4 (QV LX D cy ad) 0 [(0, .ref (ad 18)), (1, .int x1), (2, .int x2), (3, .int x3)] [] M (fX10_shorten n0 x1 x2 x3 M) := by
  unfold fX10_shorten
  refine b_aload_n hO dX10_shorten_0 0 rfl rfl ?_
  refine b_get hO flX10_9 kLX_18 (v := .ref (ad 19)) rfl dX10_shorten_1 ?_
  refine b_iload_n hO dX10_shorten_4 2 rfl rfl ?_
  refine b_aload_n hO dX10_shorten_5 0 rfl rfl ?_
  refine b_get hO flX10_9 kLX_18 (v := .ref (ad 19)) rfl dX10_shorten_6 ?_
  refine b_iload_n hO dX10_shorten_9 2 rfl rfl ?_
  refine b_iald hO kLX_19 (n := 5) rfl dX10_shorten_10 ?_
  refine b_aload_n hO dX10_shorten_11 0 rfl rfl ?_
  refine b_get hO flX10_9 kLX_18 (v := .ref (ad 19)) rfl dX10_shorten_12 ?_
  refine b_iload_n hO dX10_shorten_15 1 rfl rfl ?_
  refine b_iald hO kLX_19 (n := 5) rfl dX10_shorten_16 ?_
  refine b_iload_n hO dX10_shorten_17 3 rfl rfl ?_
  refine b_iadd hO dX10_shorten_18 ?_
  refine b_mmin hO w1063 w591 w136 wm592 (by first | decide | omega) (Nat.le_of_ble_eq_true rfl) dX10_shorten_19 ?_
  refine b_iast hO kLX_19 (n := 5) rfl dX10_shorten_22 ?_
  exact b_vret hO dX10_shorten_23
theorem ctX10_shorten (n0 : Nat) (hI : Inj LX ad) (x1 : Int32) (x2 : Int32) (x3 : Int32) (M : Mem) : CT l LX D cy ad yX10_shorten cX10_shorten 4 none 1 (QV LX D cy ad) [.ref (ad 18), .int x1, .int x2, .int x3] M (fX10_shorten n0 x1 x2 x3 M) :=
  CT.mk LXok hI (by decide) (Nat.le_of_ble_eq_true rfl) (fun hO => tfX10_shorten n0 hO x1 x2 x3 M)
/-! X10_stepsOf -/
def fX10_stepsOf_27 (n0 : Nat) (q1 : Nat) (k3 : Int32 → Int32 → Int32 → Mem → Option (Int32 × Mem)) (x2 : Int32) (x3 : Int32) (x4 : Int32) (u1 : Int32) (u2 : Int32) (M : Mem) : Option (Int32 × Mem) :=
  if oob u1 5 then none else
  bnd (sA M 19 (Int32.toNatClampNeg u1) u2) fun M27 =>
  k3 x2 x3 (x4 + (1 : Int32)) M27
def bX10_stepsOf_49 (n0 : Nat) (q1 : Nat) (k37 : Int32 → Int32 → Mem → Option (Int32 × Mem)) (k49 : Int32 → Int32 → Int32 → Mem → Option (Int32 × Mem)) (x3 : Int32) (x4 : Int32) (x5 : Int32) (M : Mem) : Option (Int32 × Mem) :=
  if (gI M (128 * q1 + 8)) ≤ x5 then
    k37 x3 (x4 + (1 : Int32)) M
  else
    if oob x5 10 then none else
    if oob x5 10 then none else
    if oob x5 10 then none else
    (fX10_shorten n0 (gA M (q1 + 6) (Int32.toNatClampNeg x5)) (gA M (q1 + 7) (Int32.toNatClampNeg x5)) (gA M (q1 + 8) (Int32.toNatClampNeg x5)) M).bind fun z80 =>
    if oob x5 10 then none else
    if oob x5 10 then none else
    if oob x5 10 then none else
    (fX10_shorten n0 (gA z80 (q1 + 7) (Int32.toNatClampNeg x5)) (gA z80 (q1 + 6) (Int32.toNatClampNeg x5)) (gA z80 (q1 + 8) (Int32.toNatClampNeg x5)) z80).bind fun z105 =>
    k49 x3 x4 (x5 + (1 : Int32)) z105
def fX10_stepsOf_49 (n0 : Nat) (q1 : Nat) (k37 : Int32 → Int32 → Mem → Option (Int32 × Mem)) : Int32 → Int32 → Int32 → Mem → Option (Int32 × Mem) := loopN (bX10_stepsOf_49 n0 q1 k37) (fun _ _ _ _ => none) n0
def bX10_stepsOf_37 (n0 : Nat) (q1 : Nat) (k37 : Int32 → Int32 → Mem → Option (Int32 × Mem)) (x3 : Int32) (x4 : Int32) (M : Mem) : Option (Int32 × Mem) :=
  if (gI M (128 * q1 + 5)) ≤ x4 then
    (fX9_isCorner n0 q1 x3 M).bind fun z122 =>
    if z122.1 = 0 then
      some ((-1 : Int32), z122.2)
    else
      if oob x3 5 then none else
      if (1000000 : Int32) ≤ (gA z122.2 19 (Int32.toNatClampNeg x3)) then
        some ((-1 : Int32), z122.2)
      else
        if oob x3 5 then none else
        some ((gA z122.2 19 (Int32.toNatClampNeg x3)), z122.2)
  else
    fX10_stepsOf_49 n0 q1 k37 x3 x4 (0 : Int32) M
def fX10_stepsOf_37 (n0 : Nat) (q1 : Nat) : Int32 → Int32 → Mem → Option (Int32 × Mem) := loopN (bX10_stepsOf_37 n0 q1) (fun _ _ _ => none) n0
def bX10_stepsOf_3 (n0 : Nat) (q1 : Nat) (k3 : Int32 → Int32 → Int32 → Mem → Option (Int32 × Mem)) (x2 : Int32) (x3 : Int32) (x4 : Int32) (M : Mem) : Option (Int32 × Mem) :=
  if (5 : Int32) ≤ x4 then
    fX10_stepsOf_37 n0 q1 x3 (0 : Int32) M
  else
    if x4 = x2 then
      fX10_stepsOf_27 n0 q1 k3 x2 x3 x4 x4 (0 : Int32) M
    else
      fX10_stepsOf_27 n0 q1 k3 x2 x3 x4 x4 (1000000 : Int32) M
def fX10_stepsOf_3 (n0 : Nat) (q1 : Nat) : Int32 → Int32 → Int32 → Mem → Option (Int32 × Mem) := loopN (bX10_stepsOf_3 n0 q1) (fun _ _ _ _ => none) n0
def fX10_stepsOf (n0 : Nat) (q1 : Nat) (x2 : Int32) (x3 : Int32) (M : Mem) : Option (Int32 × Mem) :=
  fX10_stepsOf_3 n0 q1 x2 x3 (0 : Int32) M
theorem tfX10_stepsOf_27 (n0 : Nat) (q1 : Nat) (hq1 : isK LX q1 9) (hO : OKc p (rmL 2) s m args meth c LX D cy ad cX10_stepsOf RX10 6 2 (some .int)) (k3 : Int32 → Int32 → Int32 → Mem → Option (Int32 × Mem)) (hk3 : ∀ (x2 : Int32) (x3 : Int32) (x4 : Int32) (M : Mem), BL p l e (rmL 2) s m args below meth c LX D cy ad 6 (QI LX D cy ad) 3 [(0, .ref (ad 18)), (1, .ref (ad q1)), (2, .int x2), (3, .int x3), (4, .int x4)] [] M (k3 x2 x3 x4 M)) (x2 : Int32) (x3 : Int32) (x4 : Int32) (u1 : Int32) (u2 : Int32) (M : Mem) : BL p l e (rmL 2) s m args below meth c LX D cy ad 6 (QI LX D cy ad) 27 [(0, .ref (ad 18)), (1, .ref (ad q1)), (2, .int x2), (3, .int x3), (4, .int x4)] [.int u2, .int u1, .ref (ad 19)] M (fX10_stepsOf_27 n0 q1 k3 x2 x3 x4 u1 u2 M) := by
  unfold fX10_stepsOf_27
  refine b_iast hO kLX_19 (n := 5) rfl dX10_stepsOf_27 ?_
  refine b_bnd (fun M27 => ?_)
  refine b_iinc hO dX10_stepsOf_28 4 rfl ic_i_1 (by decide) (lv' := [(4, .int _), (0, .ref _), (1, .ref _), (2, .int _), (3, .int _)]) rfl ?_
  refine b_goto hO dX10_stepsOf_31 (tgt := 3) (by decide) ?_
  refine b_sub [1, 2, 3, 4, 0] rfl ?_
  exact hk3 _ _ _ _
theorem tbX10_stepsOf_49 (n0 : Nat) (q1 : Nat) (hq1 : isK LX q1 9) (hO : OKc p (rmL 2) s m args meth c LX D cy ad cX10_stepsOf RX10 6 2 (some .int)) (k37 : Int32 → Int32 → Mem → Option (Int32 × Mem)) (k49 : Int32 → Int32 → Int32 → Mem → Option (Int32 × Mem)) (hk37 : ∀ (x3 : Int32) (x4 : Int32) (M : Mem), BL p l e (rmL 2) s m args below meth c LX D cy ad 6 (QI LX D cy ad) 37 [(0, .ref (ad 18)), (1, .ref (ad q1)), (3, .int x3), (4, .int x4)] [] M (k37 x3 x4 M)) (hk49 : ∀ (x3 : Int32) (x4 : Int32) (x5 : Int32) (M : Mem), BL p l e (rmL 2) s m args below meth c LX D cy ad 6 (QI LX D cy ad) 49 [(0, .ref (ad 18)), (1, .ref (ad q1)), (3, .int x3), (4, .int x4), (5, .int x5)] [] M (k49 x3 x4 x5 M)) (x3 : Int32) (x4 : Int32) (x5 : Int32) (M : Mem) : BL p l e (rmL 2) s m args below meth c LX D cy ad 6 (QI LX D cy ad) 49 [(0, .ref (ad 18)), (1, .ref (ad q1)), (3, .int x3), (4, .int x4), (5, .int x5)] [] M (bX10_stepsOf_49 n0 q1 k37 k49 x3 x4 x5 M) := by
  unfold bX10_stepsOf_49
  refine b_iload hO dX10_stepsOf_49 4 rfl ?_
  refine b_aload_n hO dX10_stepsOf_51 1 rfl rfl ?_
  refine b_get hO flX10_25 hq1 (v := .int (gI _ (128 * q1 + 8))) rfl dX10_stepsOf_52 ?_
  refine b_icmp_ge hO dX10_stepsOf_55 (tgt := 114) (by decide) ?_ ?_
  · refine b_iinc hO dX10_stepsOf_114 3 rfl ic_i_1 (by decide) (lv' := [(4, .int _), (0, .ref _), (1, .ref _), (3, .int _), (5, .int _)]) rfl ?_
    refine b_goto hO dX10_stepsOf_117 (tgt := 37) (by decide) ?_
    refine b_sub [1, 2, 3, 0] rfl ?_
    exact hk37 _ _ _
  · refine b_aload_n hO dX10_stepsOf_58 0 rfl rfl ?_
    refine b_aload_n hO dX10_stepsOf_59 1 rfl rfl ?_
    refine b_get hO flX10_28 hq1 (v := .ref (ad (q1 + 6))) rfl dX10_stepsOf_60 ?_
    refine b_iload hO dX10_stepsOf_63 4 rfl ?_
    refine b_iald hO (kt_9_6 hq1) (n := 10) (lt_9_6 hq1) dX10_stepsOf_65 ?_
    refine b_aload_n hO dX10_stepsOf_66 1 rfl rfl ?_
    refine b_get hO flX10_31 hq1 (v := .ref (ad (q1 + 7))) rfl dX10_stepsOf_67 ?_
    refine b_iload hO dX10_stepsOf_70 4 rfl ?_
    refine b_iald hO (kt_9_7 hq1) (n := 10) (lt_9_7 hq1) dX10_stepsOf_72 ?_
    refine b_aload_n hO dX10_stepsOf_73 1 rfl rfl ?_
    refine b_get hO flX10_34 hq1 (v := .ref (ad (q1 + 8))) rfl dX10_stepsOf_74 ?_
    refine b_iload hO dX10_stepsOf_77 4 rfl ?_
    refine b_iald hO (kt_9_8 hq1) (n := 10) (lt_9_8 hq1) dX10_stepsOf_79 ?_
    refine b_callVV hO mdX10_shorten mvX10_shorten w1059 (ci := 10) rfl rfl (by decide) kLX_18 (As := [.int _, .int _, .int _]) (st := []) (ctX10_shorten n0 hO.2.2.2.2.2.2.1 _ _ _ _) (Nat.le_of_ble_eq_true rfl) rfl rfl (Nat.le_of_ble_eq_true rfl) dX10_stepsOf_80 (fun z80 => ?_)
    refine b_aload_n hO dX10_stepsOf_83 0 rfl rfl ?_
    refine b_aload_n hO dX10_stepsOf_84 1 rfl rfl ?_
    refine b_get hO flX10_31 hq1 (v := .ref (ad (q1 + 7))) rfl dX10_stepsOf_85 ?_
    refine b_iload hO dX10_stepsOf_88 4 rfl ?_
    refine b_iald hO (kt_9_7 hq1) (n := 10) (lt_9_7 hq1) dX10_stepsOf_90 ?_
    refine b_aload_n hO dX10_stepsOf_91 1 rfl rfl ?_
    refine b_get hO flX10_28 hq1 (v := .ref (ad (q1 + 6))) rfl dX10_stepsOf_92 ?_
    refine b_iload hO dX10_stepsOf_95 4 rfl ?_
    refine b_iald hO (kt_9_6 hq1) (n := 10) (lt_9_6 hq1) dX10_stepsOf_97 ?_
    refine b_aload_n hO dX10_stepsOf_98 1 rfl rfl ?_
    refine b_get hO flX10_34 hq1 (v := .ref (ad (q1 + 8))) rfl dX10_stepsOf_99 ?_
    refine b_iload hO dX10_stepsOf_102 4 rfl ?_
    refine b_iald hO (kt_9_8 hq1) (n := 10) (lt_9_8 hq1) dX10_stepsOf_104 ?_
    refine b_callVV hO mdX10_shorten mvX10_shorten w1059 (ci := 10) rfl rfl (by decide) kLX_18 (As := [.int _, .int _, .int _]) (st := []) (ctX10_shorten n0 hO.2.2.2.2.2.2.1 _ _ _ _) (Nat.le_of_ble_eq_true rfl) rfl rfl (Nat.le_of_ble_eq_true rfl) dX10_stepsOf_105 (fun z105 => ?_)
    refine b_iinc hO dX10_stepsOf_108 4 rfl ic_i_1 (by decide) (lv' := [(5, .int _), (0, .ref _), (1, .ref _), (3, .int _), (4, .int _)]) rfl ?_
    refine b_goto hO dX10_stepsOf_111 (tgt := 49) (by decide) ?_
    refine b_sub [1, 2, 3, 4, 0] rfl ?_
    exact hk49 _ _ _ _
theorem lX10_stepsOf_49 (n0 : Nat) (q1 : Nat) (hq1 : isK LX q1 9) (hO : OKc p (rmL 2) s m args meth c LX D cy ad cX10_stepsOf RX10 6 2 (some .int)) (k37 : Int32 → Int32 → Mem → Option (Int32 × Mem)) (hk37 : ∀ (x3 : Int32) (x4 : Int32) (M : Mem), BL p l e (rmL 2) s m args below meth c LX D cy ad 6 (QI LX D cy ad) 37 [(0, .ref (ad 18)), (1, .ref (ad q1)), (3, .int x3), (4, .int x4)] [] M (k37 x3 x4 M)) : ∀ (w : Nat) (x3 : Int32) (x4 : Int32) (x5 : Int32) (M : Mem), BL p l e (rmL 2) s m args below meth c LX D cy ad 6 (QI LX D cy ad) 49 [(0, .ref (ad 18)), (1, .ref (ad q1)), (3, .int x3), (4, .int x4), (5, .int x5)] [] M (loopN (bX10_stepsOf_49 n0 q1 k37) (fun _ _ _ _ => none) w x3 x4 x5 M) := by
  intro w
  induction w with
  | zero =>
    intros
    exact b_none
  | succ w ih =>
    intro x3 x4 x5 M
    exact tbX10_stepsOf_49 n0 q1 hq1 hO k37 _ hk37 ih x3 x4 x5 M
theorem tfX10_stepsOf_49 (n0 : Nat) (q1 : Nat) (hq1 : isK LX q1 9) (hO : OKc p (rmL 2) s m args meth c LX D cy ad cX10_stepsOf RX10 6 2 (some .int)) (k37 : Int32 → Int32 → Mem → Option (Int32 × Mem)) (hk37 : ∀ (x3 : Int32) (x4 : Int32) (M : Mem), BL p l e (rmL 2) s m args below meth c LX D cy ad 6 (QI LX D cy ad) 37 [(0, .ref (ad 18)), (1, .ref (ad q1)), (3, .int x3), (4, .int x4)] [] M (k37 x3 x4 M)) (x3 : Int32) (x4 : Int32) (x5 : Int32) (M : Mem) : BL p l e (rmL 2) s m args below meth c LX D cy ad 6 (QI LX D cy ad) 49 [(0, .ref (ad 18)), (1, .ref (ad q1)), (3, .int x3), (4, .int x4), (5, .int x5)] [] M (fX10_stepsOf_49 n0 q1 k37 x3 x4 x5 M) := lX10_stepsOf_49 n0 q1 hq1 hO k37 hk37 n0 x3 x4 x5 M
theorem tbX10_stepsOf_37 (n0 : Nat) (q1 : Nat) (hq1 : isK LX q1 9) (hO : OKc p (rmL 2) s m args meth c LX D cy ad cX10_stepsOf RX10 6 2 (some .int)) (k37 : Int32 → Int32 → Mem → Option (Int32 × Mem)) (hk37 : ∀ (x3 : Int32) (x4 : Int32) (M : Mem), BL p l e (rmL 2) s m args below meth c LX D cy ad 6 (QI LX D cy ad) 37 [(0, .ref (ad 18)), (1, .ref (ad q1)), (3, .int x3), (4, .int x4)] [] M (k37 x3 x4 M)) (x3 : Int32) (x4 : Int32) (M : Mem) : BL p l e (rmL 2) s m args below meth c LX D cy ad 6 (QI LX D cy ad) 37 [(0, .ref (ad 18)), (1, .ref (ad q1)), (3, .int x3), (4, .int x4)] [] M (bX10_stepsOf_37 n0 q1 k37 x3 x4 M) := by
  unfold bX10_stepsOf_37
  refine b_iload hO dX10_stepsOf_37 3 rfl ?_
  refine b_aload_n hO dX10_stepsOf_39 1 rfl rfl ?_
  refine b_get hO flX10_19 hq1 (v := .int (gI _ (128 * q1 + 5))) rfl dX10_stepsOf_40 ?_
  refine b_icmp_ge hO dX10_stepsOf_43 (tgt := 120) (by decide) ?_ ?_
  · refine b_aload_n hO dX10_stepsOf_120 1 rfl rfl ?_
    refine b_iload_n hO dX10_stepsOf_121 2 rfl rfl ?_
    refine b_callVI hO mdX9_isCorner mvX9_isCorner w1064 (ci := 9) rfl rfl (by decide) hq1 (As := [.int _]) (st := []) (ctX9_isCorner n0 _ hq1 hO.2.2.2.2.2.2.1 _ _) (Nat.le_of_ble_eq_true rfl) rfl rfl (Nat.le_of_ble_eq_true rfl) dX10_stepsOf_122 (fun z122 => ?_)
    refine b_if_eq hO dX10_stepsOf_125 (tgt := 148) (by decide) ?_ ?_
    · refine b_iconst hO dX10_stepsOf_148 ic_i_m1 ?_
      exact b_iret hO dX10_stepsOf_149
    · refine b_aload_n hO dX10_stepsOf_128 0 rfl rfl ?_
      refine b_get hO flX10_9 kLX_18 (v := .ref (ad 19)) rfl dX10_stepsOf_129 ?_
      refine b_iload_n hO dX10_stepsOf_132 2 rfl rfl ?_
      refine b_iald hO kLX_19 (n := 5) rfl dX10_stepsOf_133 ?_
      refine b_ldc hO w1058 dX10_stepsOf_134 ?_
      refine b_icmp_ge hO dX10_stepsOf_136 (tgt := 148) (by decide) ?_ ?_
      · refine b_iconst hO dX10_stepsOf_148 ic_i_m1 ?_
        exact b_iret hO dX10_stepsOf_149
      · refine b_aload_n hO dX10_stepsOf_139 0 rfl rfl ?_
        refine b_get hO flX10_9 kLX_18 (v := .ref (ad 19)) rfl dX10_stepsOf_140 ?_
        refine b_iload_n hO dX10_stepsOf_143 2 rfl rfl ?_
        refine b_iald hO kLX_19 (n := 5) rfl dX10_stepsOf_144 ?_
        refine b_goto hO dX10_stepsOf_145 (tgt := 149) (by decide) ?_
        exact b_iret hO dX10_stepsOf_149
  · refine b_iconst hO dX10_stepsOf_46 ic_i_0 ?_
    refine b_istore hO dX10_stepsOf_47 (by decide) (lv' := [(5, .int _), (0, .ref _), (1, .ref _), (3, .int _), (4, .int _)]) rfl ?_
    refine b_sub [1, 2, 3, 4, 0] rfl ?_
    exact tfX10_stepsOf_49 n0 q1 hq1 hO k37 hk37 _ _ _ _
theorem lX10_stepsOf_37 (n0 : Nat) (q1 : Nat) (hq1 : isK LX q1 9) (hO : OKc p (rmL 2) s m args meth c LX D cy ad cX10_stepsOf RX10 6 2 (some .int)) : ∀ (w : Nat) (x3 : Int32) (x4 : Int32) (M : Mem), BL p l e (rmL 2) s m args below meth c LX D cy ad 6 (QI LX D cy ad) 37 [(0, .ref (ad 18)), (1, .ref (ad q1)), (3, .int x3), (4, .int x4)] [] M (loopN (bX10_stepsOf_37 n0 q1) (fun _ _ _ => none) w x3 x4 M) := by
  intro w
  induction w with
  | zero =>
    intros
    exact b_none
  | succ w ih =>
    intro x3 x4 M
    exact tbX10_stepsOf_37 n0 q1 hq1 hO _ ih x3 x4 M
theorem tfX10_stepsOf_37 (n0 : Nat) (q1 : Nat) (hq1 : isK LX q1 9) (hO : OKc p (rmL 2) s m args meth c LX D cy ad cX10_stepsOf RX10 6 2 (some .int)) (x3 : Int32) (x4 : Int32) (M : Mem) : BL p l e (rmL 2) s m args below meth c LX D cy ad 6 (QI LX D cy ad) 37 [(0, .ref (ad 18)), (1, .ref (ad q1)), (3, .int x3), (4, .int x4)] [] M (fX10_stepsOf_37 n0 q1 x3 x4 M) := lX10_stepsOf_37 n0 q1 hq1 hO n0 x3 x4 M
theorem tbX10_stepsOf_3 (n0 : Nat) (q1 : Nat) (hq1 : isK LX q1 9) (hO : OKc p (rmL 2) s m args meth c LX D cy ad cX10_stepsOf RX10 6 2 (some .int)) (k3 : Int32 → Int32 → Int32 → Mem → Option (Int32 × Mem)) (hk3 : ∀ (x2 : Int32) (x3 : Int32) (x4 : Int32) (M : Mem), BL p l e (rmL 2) s m args below meth c LX D cy ad 6 (QI LX D cy ad) 3 [(0, .ref (ad 18)), (1, .ref (ad q1)), (2, .int x2), (3, .int x3), (4, .int x4)] [] M (k3 x2 x3 x4 M)) (x2 : Int32) (x3 : Int32) (x4 : Int32) (M : Mem) : BL p l e (rmL 2) s m args below meth c LX D cy ad 6 (QI LX D cy ad) 3 [(0, .ref (ad 18)), (1, .ref (ad q1)), (2, .int x2), (3, .int x3), (4, .int x4)] [] M (bX10_stepsOf_3 n0 q1 k3 x2 x3 x4 M) := by
  unfold bX10_stepsOf_3
  refine b_iload hO dX10_stepsOf_3 4 rfl ?_
  refine b_iconst hO dX10_stepsOf_5 ic_i_5 ?_
  refine b_icmp_ge hO dX10_stepsOf_6 (tgt := 34) (by decide) ?_ ?_
  · refine b_iconst hO dX10_stepsOf_34 ic_i_0 ?_
    refine b_istore hO dX10_stepsOf_35 (by decide) (lv' := [(4, .int _), (0, .ref _), (1, .ref _), (2, .int _), (3, .int _)]) rfl ?_
    refine b_sub [1, 2, 4, 0] rfl ?_
    exact tfX10_stepsOf_37 n0 q1 hq1 hO _ _ _
  · refine b_aload_n hO dX10_stepsOf_9 0 rfl rfl ?_
    refine b_get hO flX10_9 kLX_18 (v := .ref (ad 19)) rfl dX10_stepsOf_10 ?_
    refine b_iload hO dX10_stepsOf_13 4 rfl ?_
    refine b_iload hO dX10_stepsOf_15 4 rfl ?_
    refine b_iload_n hO dX10_stepsOf_17 2 rfl rfl ?_
    refine b_icmp_ne hO dX10_stepsOf_18 (tgt := 25) (by decide) ?_ ?_
    · refine b_ldc hO w1058 dX10_stepsOf_25 ?_
      exact tfX10_stepsOf_27 n0 q1 hq1 hO k3 hk3 _ _ _ _ _ _
    · refine b_iconst hO dX10_stepsOf_21 ic_i_0 ?_
      refine b_goto hO dX10_stepsOf_22 (tgt := 27) (by decide) ?_
      exact tfX10_stepsOf_27 n0 q1 hq1 hO k3 hk3 _ _ _ _ _ _
theorem lX10_stepsOf_3 (n0 : Nat) (q1 : Nat) (hq1 : isK LX q1 9) (hO : OKc p (rmL 2) s m args meth c LX D cy ad cX10_stepsOf RX10 6 2 (some .int)) : ∀ (w : Nat) (x2 : Int32) (x3 : Int32) (x4 : Int32) (M : Mem), BL p l e (rmL 2) s m args below meth c LX D cy ad 6 (QI LX D cy ad) 3 [(0, .ref (ad 18)), (1, .ref (ad q1)), (2, .int x2), (3, .int x3), (4, .int x4)] [] M (loopN (bX10_stepsOf_3 n0 q1) (fun _ _ _ _ => none) w x2 x3 x4 M) := by
  intro w
  induction w with
  | zero =>
    intros
    exact b_none
  | succ w ih =>
    intro x2 x3 x4 M
    exact tbX10_stepsOf_3 n0 q1 hq1 hO _ ih x2 x3 x4 M
theorem tfX10_stepsOf_3 (n0 : Nat) (q1 : Nat) (hq1 : isK LX q1 9) (hO : OKc p (rmL 2) s m args meth c LX D cy ad cX10_stepsOf RX10 6 2 (some .int)) (x2 : Int32) (x3 : Int32) (x4 : Int32) (M : Mem) : BL p l e (rmL 2) s m args below meth c LX D cy ad 6 (QI LX D cy ad) 3 [(0, .ref (ad 18)), (1, .ref (ad q1)), (2, .int x2), (3, .int x3), (4, .int x4)] [] M (fX10_stepsOf_3 n0 q1 x2 x3 x4 M) := lX10_stepsOf_3 n0 q1 hq1 hO n0 x2 x3 x4 M
theorem tfX10_stepsOf (n0 : Nat) (q1 : Nat) (hq1 : isK LX q1 9) (hO : OKc p (rmL 2) s m args meth c LX D cy ad cX10_stepsOf RX10 6 2 (some .int)) (x2 : Int32) (x3 : Int32) (M : Mem) : BL p l e (rmL 2) s m args below meth c LX D cy ad 6 (QI LX D cy ad) 0 [(0, .ref (ad 18)), (1, .ref (ad q1)), (2, .int x2), (3, .int x3)] [] M (fX10_stepsOf n0 q1 x2 x3 M) := by
  unfold fX10_stepsOf
  refine b_iconst hO dX10_stepsOf_0 ic_i_0 ?_
  refine b_istore hO dX10_stepsOf_1 (by decide) (lv' := [(4, .int _), (0, .ref _), (1, .ref _), (2, .int _), (3, .int _)]) rfl ?_
  refine b_sub [1, 2, 3, 4, 0] rfl ?_
  exact tfX10_stepsOf_3 n0 q1 hq1 hO _ _ _ _
theorem ctX10_stepsOf (n0 : Nat) (q1 : Nat) (hq1 : isK LX q1 9) (hI : Inj LX ad) (x2 : Int32) (x3 : Int32) (M : Mem) : CT l LX D cy ad yX10_stepsOf cX10_stepsOf 6 (some .int) 2 (QI LX D cy ad) [.ref (ad 18), .ref (ad q1), .int x2, .int x3] M (fX10_stepsOf n0 q1 x2 x3 M) :=
  CT.mk LXok hI (by decide) (Nat.le_of_ble_eq_true rfl) (fun hO => tfX10_stepsOf n0 q1 hq1 hO x2 x3 M)
/-! X10_across -/
def fX10_across (n0 : Nat) (q0 : Nat) (x1 : Int32) (x2 : Int32) (M : Mem) : Option (Int32 × Mem) :=
  if oob x1 10 then none else
  bnd (gA M (q0 + 6) (Int32.toNatClampNeg x1)) fun x3_6 =>
  if oob x1 10 then none else
  bnd (gA M (q0 + 7) (Int32.toNatClampNeg x1)) fun x4_13 =>
  some (((((x2 >>> (x3_6 &&& 31)) &&& (1 : Int32)) <<< (x4_13 &&& 31)) ||| (((x2 >>> (x4_13 &&& 31)) &&& (1 : Int32)) <<< (x3_6 &&& 31))), M)
theorem tfX10_across (n0 : Nat) (q0 : Nat) (hq0 : isK LX q0 9) (hO : OKc p (rmL 1) s m args meth c LX D cy ad cX10_across RX10 5 1 (some .int)) (x1 : Int32) (x2 : Int32) (M : Mem) : BL p l e (rmL 1) s m args below meth c LX D cy ad 5 (QI LX D cy ad) 0 [(0, .ref (ad q0)), (1, .int x1), (2, .int x2)] [] M (fX10_across n0 q0 x1 x2 M) := by
  unfold fX10_across
  refine b_aload_n hO dX10_across_0 0 rfl rfl ?_
  refine b_get hO flX10_28 hq0 (v := .ref (ad (q0 + 6))) rfl dX10_across_1 ?_
  refine b_iload_n hO dX10_across_4 1 rfl rfl ?_
  refine b_iald hO (kt_9_6 hq0) (n := 10) (lt_9_6 hq0) dX10_across_5 ?_
  refine b_topI (fun x3_6 => ?_)
  refine b_istore_n hO dX10_across_6 rfl (by decide) (lv' := [(3, .int _), (0, .ref _), (1, .int _), (2, .int _)]) rfl ?_
  refine b_aload_n hO dX10_across_7 1 rfl rfl ?_
  refine b_get hO flX10_31 hq0 (v := .ref (ad (q0 + 7))) rfl dX10_across_8 ?_
  refine b_iload_n hO dX10_across_11 2 rfl rfl ?_
  refine b_iald hO (kt_9_7 hq0) (n := 10) (lt_9_7 hq0) dX10_across_12 ?_
  refine b_topI (fun x4_13 => ?_)
  refine b_istore hO dX10_across_13 (by decide) (lv' := [(4, .int _), (3, .int _), (0, .ref _), (1, .int _), (2, .int _)]) rfl ?_
  refine b_iload_n hO dX10_across_15 4 rfl rfl ?_
  refine b_iload_n hO dX10_across_16 1 rfl rfl ?_
  refine b_ishr hO dX10_across_17 ?_
  refine b_iconst hO dX10_across_18 ic_i_1 ?_
  refine b_iand hO dX10_across_19 ?_
  refine b_iload hO dX10_across_20 0 rfl ?_
  refine b_ishl hO dX10_across_22 ?_
  refine b_iload_n hO dX10_across_23 4 rfl rfl ?_
  refine b_iload hO dX10_across_24 0 rfl ?_
  refine b_ishr hO dX10_across_26 ?_
  refine b_iconst hO dX10_across_27 ic_i_1 ?_
  refine b_iand hO dX10_across_28 ?_
  refine b_iload_n hO dX10_across_29 1 rfl rfl ?_
  refine b_ishl hO dX10_across_30 ?_
  refine b_ior hO dX10_across_31 ?_
  exact b_iret hO dX10_across_32
theorem ctX10_across (n0 : Nat) (q0 : Nat) (hq0 : isK LX q0 9) (hI : Inj LX ad) (x1 : Int32) (x2 : Int32) (M : Mem) : CT l LX D cy ad yX10_across cX10_across 5 (some .int) 1 (QI LX D cy ad) [.ref (ad q0), .int x1, .int x2] M (fX10_across n0 q0 x1 x2 M) :=
  CT.mk LXok hI (by decide) (Nat.le_of_ble_eq_true rfl) (fun hO => tfX10_across n0 q0 hq0 hO x1 x2 M)
/-! X10_goOutFrom -/
def fX10_goOutFrom_74 (n0 : Nat) (q1 : Nat) (k11 : Int32 → Mem → Option (Mem)) (k27 : Int32 → Int32 → Mem → Option (Mem)) (x3 : Int32) (x4 : Int32) (M : Mem) : Option (Mem) :=
  k27 x3 (x4 + (1 : Int32)) M
def bX10_goOutFrom_27 (n0 : Nat) (q1 : Nat) (k11 : Int32 → Mem → Option (Mem)) (k27 : Int32 → Int32 → Mem → Option (Mem)) (x3 : Int32) (x4 : Int32) (M : Mem) : Option (Mem) :=
  if (gI M (128 * q1 + 8)) ≤ x4 then
    k11 (x3 + (1 : Int32)) M
  else
    if oob x4 10 then none else
    bnd (x3 - (gA M (q1 + 8) (Int32.toNatClampNeg x4))) fun x5_45 =>
    if x5_45 < 0 then
      fX10_goOutFrom_74 n0 q1 k11 k27 x3 x4 M
    else
      if oob x3 61 then none else
      if oob x5_45 61 then none else
      (fX10_across n0 q1 x4 (gA M 20 (Int32.toNatClampNeg x5_45)) M).bind fun z69 =>
      if oob x3 61 then none else
      fX10_goOutFrom_74 n0 q1 k11 k27 x3 x4 (sA z69.2 20 (Int32.toNatClampNeg x3) ((gA M 20 (Int32.toNatClampNeg x3)) ||| z69.1))
def fX10_goOutFrom_27 (n0 : Nat) (q1 : Nat) (k11 : Int32 → Mem → Option (Mem)) : Int32 → Int32 → Mem → Option (Mem) := loopN (bX10_goOutFrom_27 n0 q1 k11) (fun _ _ _ => none) n0
def bX10_goOutFrom_11 (n0 : Nat) (q1 : Nat) (k11 : Int32 → Mem → Option (Mem)) (x3 : Int32) (M : Mem) : Option (Mem) :=
  if (60 : Int32) < x3 then
    some M
  else
    if oob x3 61 then none else
    bnd (sA M 20 (Int32.toNatClampNeg x3) (0 : Int32)) fun M23 =>
    fX10_goOutFrom_27 n0 q1 k11 x3 (0 : Int32) M23
def fX10_goOutFrom_11 (n0 : Nat) (q1 : Nat) : Int32 → Mem → Option (Mem) := loopN (bX10_goOutFrom_11 n0 q1) (fun _ _ => none) n0
def fX10_goOutFrom (n0 : Nat) (q1 : Nat) (x2 : Int32) (M : Mem) : Option (Mem) :=
  if oob (0 : Int32) 61 then none else
  bnd (sA M 20 (Int32.toNatClampNeg (0 : Int32)) ((1 : Int32) <<< (x2 &&& 31))) fun M8 =>
  fX10_goOutFrom_11 n0 q1 (1 : Int32) M8
theorem tfX10_goOutFrom_74 (n0 : Nat) (q1 : Nat) (hq1 : isK LX q1 9) (hO : OKc p (rmL 2) s m args meth c LX D cy ad cX10_goOutFrom RX10 6 2 none) (k11 : Int32 → Mem → Option (Mem)) (k27 : Int32 → Int32 → Mem → Option (Mem)) (hk11 : ∀ (x3 : Int32) (M : Mem), BL p l e (rmL 2) s m args below meth c LX D cy ad 6 (QV LX D cy ad) 11 [(0, .ref (ad 18)), (1, .ref (ad q1)), (3, .int x3)] [] M (k11 x3 M)) (hk27 : ∀ (x3 : Int32) (x4 : Int32) (M : Mem), BL p l e (rmL 2) s m args below meth c LX D cy ad 6 (QV LX D cy ad) 27 [(0, .ref (ad 18)), (1, .ref (ad q1)), (3, .int x3), (4, .int x4)] [] M (k27 x3 x4 M)) (x3 : Int32) (x4 : Int32) (M : Mem) : BL p l e (rmL 2) s m args below meth c LX D cy ad 6 (QV LX D cy ad) 74 [(0, .ref (ad 18)), (1, .ref (ad q1)), (3, .int x3), (4, .int x4)] [] M (fX10_goOutFrom_74 n0 q1 k11 k27 x3 x4 M) := by
  unfold fX10_goOutFrom_74
  refine b_iinc hO dX10_goOutFrom_74 3 rfl ic_i_1 (by decide) (lv' := [(4, .int _), (0, .ref _), (1, .ref _), (3, .int _)]) rfl ?_
  refine b_goto hO dX10_goOutFrom_77 (tgt := 27) (by decide) ?_
  refine b_sub [1, 2, 3, 0] rfl ?_
  exact hk27 _ _ _
theorem tbX10_goOutFrom_27 (n0 : Nat) (q1 : Nat) (hq1 : isK LX q1 9) (hO : OKc p (rmL 2) s m args meth c LX D cy ad cX10_goOutFrom RX10 6 2 none) (k11 : Int32 → Mem → Option (Mem)) (k27 : Int32 → Int32 → Mem → Option (Mem)) (hk11 : ∀ (x3 : Int32) (M : Mem), BL p l e (rmL 2) s m args below meth c LX D cy ad 6 (QV LX D cy ad) 11 [(0, .ref (ad 18)), (1, .ref (ad q1)), (3, .int x3)] [] M (k11 x3 M)) (hk27 : ∀ (x3 : Int32) (x4 : Int32) (M : Mem), BL p l e (rmL 2) s m args below meth c LX D cy ad 6 (QV LX D cy ad) 27 [(0, .ref (ad 18)), (1, .ref (ad q1)), (3, .int x3), (4, .int x4)] [] M (k27 x3 x4 M)) (x3 : Int32) (x4 : Int32) (M : Mem) : BL p l e (rmL 2) s m args below meth c LX D cy ad 6 (QV LX D cy ad) 27 [(0, .ref (ad 18)), (1, .ref (ad q1)), (3, .int x3), (4, .int x4)] [] M (bX10_goOutFrom_27 n0 q1 k11 k27 x3 x4 M) := by
  unfold bX10_goOutFrom_27
  refine b_iload hO dX10_goOutFrom_27 3 rfl ?_
  refine b_aload_n hO dX10_goOutFrom_29 1 rfl rfl ?_
  refine b_get hO flX10_25 hq1 (v := .int (gI _ (128 * q1 + 8))) rfl dX10_goOutFrom_30 ?_
  refine b_icmp_ge hO dX10_goOutFrom_33 (tgt := 80) (by decide) ?_ ?_
  · refine b_iinc hO dX10_goOutFrom_80 2 rfl ic_i_1 (by decide) (lv' := [(3, .int _), (0, .ref _), (1, .ref _), (4, .int _)]) rfl ?_
    refine b_goto hO dX10_goOutFrom_83 (tgt := 11) (by decide) ?_
    refine b_sub [1, 2, 0] rfl ?_
    exact hk11 _ _
  · refine b_iload_n hO dX10_goOutFrom_36 2 rfl rfl ?_
    refine b_aload_n hO dX10_goOutFrom_37 1 rfl rfl ?_
    refine b_get hO flX10_34 hq1 (v := .ref (ad (q1 + 8))) rfl dX10_goOutFrom_38 ?_
    refine b_iload hO dX10_goOutFrom_41 3 rfl ?_
    refine b_iald hO (kt_9_8 hq1) (n := 10) (lt_9_8 hq1) dX10_goOutFrom_43 ?_
    refine b_isub hO dX10_goOutFrom_44 ?_
    refine b_topI (fun x5_45 => ?_)
    refine b_istore hO dX10_goOutFrom_45 (by decide) (lv' := [(5, .int _), (0, .ref _), (1, .ref _), (3, .int _), (4, .int _)]) rfl ?_
    refine b_iload hO dX10_goOutFrom_47 0 rfl ?_
    refine b_if_lt hO dX10_goOutFrom_49 (tgt := 74) (by decide) ?_ ?_
    · refine b_sub [1, 2, 3, 4] rfl ?_
      exact tfX10_goOutFrom_74 n0 q1 hq1 hO k11 k27 hk11 hk27 _ _ _
    · refine b_aload_n hO dX10_goOutFrom_52 1 rfl rfl ?_
      refine b_get hO flX10_15 kLX_18 (v := .ref (ad 20)) rfl dX10_goOutFrom_53 ?_
      refine b_iload_n hO dX10_goOutFrom_56 3 rfl rfl ?_
      refine b_dup2 hO dX10_goOutFrom_57 rfl rfl ?_
      refine b_iald hO kLX_20 (n := 61) rfl dX10_goOutFrom_58 ?_
      refine b_aload_n hO dX10_goOutFrom_59 2 rfl rfl ?_
      refine b_iload hO dX10_goOutFrom_60 4 rfl ?_
      refine b_aload_n hO dX10_goOutFrom_62 1 rfl rfl ?_
      refine b_get hO flX10_15 kLX_18 (v := .ref (ad 20)) rfl dX10_goOutFrom_63 ?_
      refine b_iload hO dX10_goOutFrom_66 0 rfl ?_
      refine b_iald hO kLX_20 (n := 61) rfl dX10_goOutFrom_68 ?_
      refine b_callSI hO mdX10_across w1078 w1077 (As := [.ref _, .int _, .int _]) (st := [.int _, .int _, .ref _]) (ctX10_across n0 _ hq1 hO.2.2.2.2.2.2.1 _ _ _) (Nat.le_of_ble_eq_true rfl) rfl rfl (Nat.le_of_ble_eq_true rfl) dX10_goOutFrom_69 (fun z69 => ?_)
      refine b_ior hO dX10_goOutFrom_72 ?_
      refine b_iast hO kLX_20 (n := 61) rfl dX10_goOutFrom_73 ?_
      refine b_sub [1, 2, 3, 4] rfl ?_
      exact tfX10_goOutFrom_74 n0 q1 hq1 hO k11 k27 hk11 hk27 _ _ _
theorem lX10_goOutFrom_27 (n0 : Nat) (q1 : Nat) (hq1 : isK LX q1 9) (hO : OKc p (rmL 2) s m args meth c LX D cy ad cX10_goOutFrom RX10 6 2 none) (k11 : Int32 → Mem → Option (Mem)) (hk11 : ∀ (x3 : Int32) (M : Mem), BL p l e (rmL 2) s m args below meth c LX D cy ad 6 (QV LX D cy ad) 11 [(0, .ref (ad 18)), (1, .ref (ad q1)), (3, .int x3)] [] M (k11 x3 M)) : ∀ (w : Nat) (x3 : Int32) (x4 : Int32) (M : Mem), BL p l e (rmL 2) s m args below meth c LX D cy ad 6 (QV LX D cy ad) 27 [(0, .ref (ad 18)), (1, .ref (ad q1)), (3, .int x3), (4, .int x4)] [] M (loopN (bX10_goOutFrom_27 n0 q1 k11) (fun _ _ _ => none) w x3 x4 M) := by
  intro w
  induction w with
  | zero =>
    intros
    exact b_none
  | succ w ih =>
    intro x3 x4 M
    exact tbX10_goOutFrom_27 n0 q1 hq1 hO k11 _ hk11 ih x3 x4 M
theorem tfX10_goOutFrom_27 (n0 : Nat) (q1 : Nat) (hq1 : isK LX q1 9) (hO : OKc p (rmL 2) s m args meth c LX D cy ad cX10_goOutFrom RX10 6 2 none) (k11 : Int32 → Mem → Option (Mem)) (hk11 : ∀ (x3 : Int32) (M : Mem), BL p l e (rmL 2) s m args below meth c LX D cy ad 6 (QV LX D cy ad) 11 [(0, .ref (ad 18)), (1, .ref (ad q1)), (3, .int x3)] [] M (k11 x3 M)) (x3 : Int32) (x4 : Int32) (M : Mem) : BL p l e (rmL 2) s m args below meth c LX D cy ad 6 (QV LX D cy ad) 27 [(0, .ref (ad 18)), (1, .ref (ad q1)), (3, .int x3), (4, .int x4)] [] M (fX10_goOutFrom_27 n0 q1 k11 x3 x4 M) := lX10_goOutFrom_27 n0 q1 hq1 hO k11 hk11 n0 x3 x4 M
theorem tbX10_goOutFrom_11 (n0 : Nat) (q1 : Nat) (hq1 : isK LX q1 9) (hO : OKc p (rmL 2) s m args meth c LX D cy ad cX10_goOutFrom RX10 6 2 none) (k11 : Int32 → Mem → Option (Mem)) (hk11 : ∀ (x3 : Int32) (M : Mem), BL p l e (rmL 2) s m args below meth c LX D cy ad 6 (QV LX D cy ad) 11 [(0, .ref (ad 18)), (1, .ref (ad q1)), (3, .int x3)] [] M (k11 x3 M)) (x3 : Int32) (M : Mem) : BL p l e (rmL 2) s m args below meth c LX D cy ad 6 (QV LX D cy ad) 11 [(0, .ref (ad 18)), (1, .ref (ad q1)), (3, .int x3)] [] M (bX10_goOutFrom_11 n0 q1 k11 x3 M) := by
  unfold bX10_goOutFrom_11
  refine b_iload_n hO dX10_goOutFrom_11 2 rfl rfl ?_
  refine b_bipush hO dX10_goOutFrom_12 ic_b_60 ?_
  refine b_icmp_gt hO dX10_goOutFrom_14 (tgt := 86) (by decide) ?_ ?_
  · exact b_vret hO dX10_goOutFrom_86
  · refine b_aload_n hO dX10_goOutFrom_17 0 rfl rfl ?_
    refine b_get hO flX10_15 kLX_18 (v := .ref (ad 20)) rfl dX10_goOutFrom_18 ?_
    refine b_iload_n hO dX10_goOutFrom_21 2 rfl rfl ?_
    refine b_iconst hO dX10_goOutFrom_22 ic_i_0 ?_
    refine b_iast hO kLX_20 (n := 61) rfl dX10_goOutFrom_23 ?_
    refine b_bnd (fun M23 => ?_)
    refine b_iconst hO dX10_goOutFrom_24 ic_i_0 ?_
    refine b_istore hO dX10_goOutFrom_25 (by decide) (lv' := [(4, .int _), (0, .ref _), (1, .ref _), (3, .int _)]) rfl ?_
    refine b_sub [1, 2, 3, 0] rfl ?_
    exact tfX10_goOutFrom_27 n0 q1 hq1 hO k11 hk11 _ _ _
theorem lX10_goOutFrom_11 (n0 : Nat) (q1 : Nat) (hq1 : isK LX q1 9) (hO : OKc p (rmL 2) s m args meth c LX D cy ad cX10_goOutFrom RX10 6 2 none) : ∀ (w : Nat) (x3 : Int32) (M : Mem), BL p l e (rmL 2) s m args below meth c LX D cy ad 6 (QV LX D cy ad) 11 [(0, .ref (ad 18)), (1, .ref (ad q1)), (3, .int x3)] [] M (loopN (bX10_goOutFrom_11 n0 q1) (fun _ _ => none) w x3 M) := by
  intro w
  induction w with
  | zero =>
    intros
    exact b_none
  | succ w ih =>
    intro x3 M
    exact tbX10_goOutFrom_11 n0 q1 hq1 hO _ ih x3 M
theorem tfX10_goOutFrom_11 (n0 : Nat) (q1 : Nat) (hq1 : isK LX q1 9) (hO : OKc p (rmL 2) s m args meth c LX D cy ad cX10_goOutFrom RX10 6 2 none) (x3 : Int32) (M : Mem) : BL p l e (rmL 2) s m args below meth c LX D cy ad 6 (QV LX D cy ad) 11 [(0, .ref (ad 18)), (1, .ref (ad q1)), (3, .int x3)] [] M (fX10_goOutFrom_11 n0 q1 x3 M) := lX10_goOutFrom_11 n0 q1 hq1 hO n0 x3 M
theorem tfX10_goOutFrom (n0 : Nat) (q1 : Nat) (hq1 : isK LX q1 9) (hO : OKc p (rmL 2) s m args meth c LX D cy ad cX10_goOutFrom RX10 6 2 none) (x2 : Int32) (M : Mem) : BL p l e (rmL 2) s m args below meth c LX D cy ad 6 (QV LX D cy ad) 0 [(0, .ref (ad 18)), (1, .ref (ad q1)), (2, .int x2)] [] M (fX10_goOutFrom n0 q1 x2 M) := by
  unfold fX10_goOutFrom
  refine b_aload_n hO dX10_goOutFrom_0 0 rfl rfl ?_
  refine b_get hO flX10_15 kLX_18 (v := .ref (ad 20)) rfl dX10_goOutFrom_1 ?_
  refine b_iconst hO dX10_goOutFrom_4 ic_i_0 ?_
  refine b_iconst hO dX10_goOutFrom_5 ic_i_1 ?_
  refine b_iload_n hO dX10_goOutFrom_6 2 rfl rfl ?_
  refine b_ishl hO dX10_goOutFrom_7 ?_
  refine b_iast hO kLX_20 (n := 61) rfl dX10_goOutFrom_8 ?_
  refine b_bnd (fun M8 => ?_)
  refine b_iconst hO dX10_goOutFrom_9 ic_i_1 ?_
  refine b_istore_n hO dX10_goOutFrom_10 rfl (by decide) (lv' := [(3, .int _), (0, .ref _), (1, .ref _), (2, .int _)]) rfl ?_
  refine b_sub [1, 2, 0] rfl ?_
  exact tfX10_goOutFrom_11 n0 q1 hq1 hO _ _
theorem ctX10_goOutFrom (n0 : Nat) (q1 : Nat) (hq1 : isK LX q1 9) (hI : Inj LX ad) (x2 : Int32) (M : Mem) : CT l LX D cy ad yX10_goOutFrom cX10_goOutFrom 6 none 2 (QV LX D cy ad) [.ref (ad 18), .ref (ad q1), .int x2] M (fX10_goOutFrom n0 q1 x2 M) :=
  CT.mk LXok hI (by decide) (Nat.le_of_ble_eq_true rfl) (fun hO => tfX10_goOutFrom n0 q1 hq1 hO x2 M)
/-! X10_canBeAt -/
def fX10_canBeAt (n0 : Nat) (x1 : Int32) (x2 : Int32) (M : Mem) : Option (Int32 × Mem) :=
  if x2 < 0 then
    some ((0 : Int32), M)
  else
    if (60 : Int32) < x2 then
      some ((0 : Int32), M)
    else
      if oob x2 61 then none else
      if (((gA M 20 (Int32.toNatClampNeg x2)) >>> (x1 &&& 31)) &&& (1 : Int32)) = (1 : Int32) then
        some ((1 : Int32), M)
      else
        some ((0 : Int32), M)
theorem tfX10_canBeAt (n0 : Nat) (hO : OKc p (rmL 1) s m args meth c LX D cy ad cX10_canBeAt RX10 3 1 (some .boolean)) (x1 : Int32) (x2 : Int32) (M : Mem) : BL p l e (rmL 1) s m args below meth c LX D cy ad 3 (QI LX D cy ad) 0 [(0, .ref (ad 18)), (1, .int x1), (2, .int x2)] [] M (fX10_canBeAt n0 x1 x2 M) := by
  unfold fX10_canBeAt
  refine b_iload_n hO dX10_canBeAt_0 2 rfl rfl ?_
  refine b_if_lt hO dX10_canBeAt_1 (tgt := 28) (by decide) ?_ ?_
  · refine b_iconst hO dX10_canBeAt_28 ic_i_0 ?_
    exact b_zretc hO (Or.inl rfl) dX10_canBeAt_29
  · refine b_iload_n hO dX10_canBeAt_4 2 rfl rfl ?_
    refine b_bipush hO dX10_canBeAt_5 ic_b_60 ?_
    refine b_icmp_gt hO dX10_canBeAt_7 (tgt := 28) (by decide) ?_ ?_
    · refine b_iconst hO dX10_canBeAt_28 ic_i_0 ?_
      exact b_zretc hO (Or.inl rfl) dX10_canBeAt_29
    · refine b_aload_n hO dX10_canBeAt_10 0 rfl rfl ?_
      refine b_get hO flX10_15 kLX_18 (v := .ref (ad 20)) rfl dX10_canBeAt_11 ?_
      refine b_iload_n hO dX10_canBeAt_14 2 rfl rfl ?_
      refine b_iald hO kLX_20 (n := 61) rfl dX10_canBeAt_15 ?_
      refine b_iload_n hO dX10_canBeAt_16 1 rfl rfl ?_
      refine b_ishr hO dX10_canBeAt_17 ?_
      refine b_iconst hO dX10_canBeAt_18 ic_i_1 ?_
      refine b_iand hO dX10_canBeAt_19 ?_
      refine b_iconst hO dX10_canBeAt_20 ic_i_1 ?_
      refine b_icmp_ne hO dX10_canBeAt_21 (tgt := 28) (by decide) ?_ ?_
      · refine b_iconst hO dX10_canBeAt_28 ic_i_0 ?_
        exact b_zretc hO (Or.inl rfl) dX10_canBeAt_29
      · refine b_iconst hO dX10_canBeAt_24 ic_i_1 ?_
        refine b_goto hO dX10_canBeAt_25 (tgt := 29) (by decide) ?_
        exact b_zretc hO (Or.inr rfl) dX10_canBeAt_29
theorem ctX10_canBeAt (n0 : Nat) (hI : Inj LX ad) (x1 : Int32) (x2 : Int32) (M : Mem) : CT l LX D cy ad yX10_canBeAt cX10_canBeAt 3 (some .boolean) 1 (QI LX D cy ad) [.ref (ad 18), .int x1, .int x2] M (fX10_canBeAt n0 x1 x2 M) :=
  CT.mk LXok hI (by decide) (Nat.le_of_ble_eq_true rfl) (fun hO => tfX10_canBeAt n0 hO x1 x2 M)
end
end
