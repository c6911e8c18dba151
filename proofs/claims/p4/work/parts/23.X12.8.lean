section
variable {p : Program} {l : Launch} {e : Env} {s : State} {m : MethodId} {args : Array Value} {below : List Frame} {meth : Method} {c : Code} {D : va_G} {cy : Nat → ClassId} {ad : Nat → Nat} {dd : Nat}

/-! X12_cornerOn -/
def fX12_cornerOn_73 (n0 : Nat) (x1 : Int32) (M : Mem) : Option (Int32 × Mem) :=
  if oob ((5 : Int32) + x1) 110 then none else
  if (999 : Int32) < (gA M 30 (Int32.toNatClampNeg ((5 : Int32) + x1))) then
    some ((0 : Int32), M)
  else
    some ((1 : Int32), M)
def fX12_cornerOn_22 (n0 : Nat) (x1 : Int32) (x2 : Int32) (u0 : Int32) (M : Mem) : Option (Int32 × Mem) :=
  if oob ((5 : Int32) + x1) 110 then none else
  bnd (sA M 29 (Int32.toNatClampNeg ((5 : Int32) + x1)) u0) fun M31 =>
  if oob (x2 + (1 : Int32)) 1800 then none else
  if oob (x2 + (2 : Int32)) 1800 then none else
  if oob ((5 : Int32) + x1) 110 then none else
  bnd (sA M31 30 (Int32.toNatClampNeg ((5 : Int32) + x1)) (((gA M31 1 (Int32.toNatClampNeg (x2 + (1 : Int32)))) <<< ((8 : Int32) &&& 31)) ||| (gA M31 1 (Int32.toNatClampNeg (x2 + (2 : Int32)))))) fun M59 =>
  if u0 = (-1 : Int32) then
    fX12_cornerOn_73 n0 x1 M59
  else
    (fX12_isThing n0 u0 M59).bind fun z67 =>
    if z67.1 = 0 then
      some ((0 : Int32), z67.2)
    else
      fX12_cornerOn_73 n0 x1 z67.2
def fX12_cornerOn (n0 : Nat) (x1 : Int32) (x2 : Int32) (M : Mem) : Option (Int32 × Mem) :=
  if oob x2 1800 then none else
  if (gA M 1 (Int32.toNatClampNeg x2)) = (255 : Int32) then
    fX12_cornerOn_22 n0 x1 x2 (-1 : Int32) M
  else
    if oob x2 1800 then none else
    fX12_cornerOn_22 n0 x1 x2 (gA M 1 (Int32.toNatClampNeg x2)) M
theorem tfX12_cornerOn_73 (n0 : Nat) (hO : OKc p (rmL 2) s m args meth c LY D cy ad cX12_cornerOn RX12 4 2 (some .boolean)) (x1 : Int32) (M : Mem) : BL p l e (rmL 2) s m args below meth c LY D cy ad 4 (QI LY D cy ad) 73 [(0, .ref (ad 0)), (1, .int x1)] [] M (fX12_cornerOn_73 n0 x1 M) := by
  unfold fX12_cornerOn_73
  refine b_aload_n hO dX12_cornerOn_73 0 rfl rfl ?_
  refine b_get hO flX12_162 kLY_0 (v := .ref (ad 30)) rfl dX12_cornerOn_74 ?_
  refine b_iconst hO dX12_cornerOn_77 ic_i_5 ?_
  refine b_iload_n hO dX12_cornerOn_78 1 rfl rfl ?_
  refine b_iadd hO dX12_cornerOn_79 ?_
  refine b_iald hO kLY_30 (n := 110) rfl dX12_cornerOn_80 ?_
  refine b_sipush hO dX12_cornerOn_81 ic_s_999 ?_
  refine b_icmp_gt hO dX12_cornerOn_84 (tgt := 91) (by decide) ?_ ?_
  · refine b_iconst hO dX12_cornerOn_91 ic_i_0 ?_
    exact b_zretc hO (Or.inl rfl) dX12_cornerOn_92
  · refine b_iconst hO dX12_cornerOn_87 ic_i_1 ?_
    refine b_goto hO dX12_cornerOn_88 (tgt := 92) (by decide) ?_
    exact b_zretc hO (Or.inr rfl) dX12_cornerOn_92
theorem tfX12_cornerOn_22 (n0 : Nat) (hO : OKc p (rmL 2) s m args meth c LY D cy ad cX12_cornerOn RX12 4 2 (some .boolean)) (x1 : Int32) (x2 : Int32) (u0 : Int32) (M : Mem) : BL p l e (rmL 2) s m args below meth c LY D cy ad 4 (QI LY D cy ad) 22 [(0, .ref (ad 0)), (1, .int x1), (2, .int x2)] [.int u0] M (fX12_cornerOn_22 n0 x1 x2 u0 M) := by
  unfold fX12_cornerOn_22
  refine b_istore_n hO dX12_cornerOn_22 rfl (by decide) (lv' := [(3, .int _), (0, .ref _), (1, .int _), (2, .int _)]) rfl ?_
  refine b_aload_n hO dX12_cornerOn_23 1 rfl rfl ?_
  refine b_get hO flX12_159 kLY_0 (v := .ref (ad 29)) rfl dX12_cornerOn_24 ?_
  refine b_iconst hO dX12_cornerOn_27 ic_i_5 ?_
  refine b_iload_n hO dX12_cornerOn_28 2 rfl rfl ?_
  refine b_iadd hO dX12_cornerOn_29 ?_
  refine b_iload_n hO dX12_cornerOn_30 0 rfl rfl ?_
  refine b_iast hO kLY_29 (n := 110) rfl dX12_cornerOn_31 ?_
  refine b_bnd (fun M31 => ?_)
  refine b_aload_n hO dX12_cornerOn_32 1 rfl rfl ?_
  refine b_get hO flX12_162 kLY_0 (v := .ref (ad 30)) rfl dX12_cornerOn_33 ?_
  refine b_iconst hO dX12_cornerOn_36 ic_i_5 ?_
  refine b_iload_n hO dX12_cornerOn_37 2 rfl rfl ?_
  refine b_iadd hO dX12_cornerOn_38 ?_
  refine b_aload_n hO dX12_cornerOn_39 1 rfl rfl ?_
  refine b_get hO flX12_7 kLY_0 (v := .ref (ad 1)) rfl dX12_cornerOn_40 ?_
  refine b_iload_n hO dX12_cornerOn_43 3 rfl rfl ?_
  refine b_iconst hO dX12_cornerOn_44 ic_i_1 ?_
  refine b_iadd hO dX12_cornerOn_45 ?_
  refine b_iald hO kLY_1 (n := 1800) rfl dX12_cornerOn_46 ?_
  refine b_bipush hO dX12_cornerOn_47 ic_b_8 ?_
  refine b_ishl hO dX12_cornerOn_49 ?_
  refine b_aload_n hO dX12_cornerOn_50 1 rfl rfl ?_
  refine b_get hO flX12_7 kLY_0 (v := .ref (ad 1)) rfl dX12_cornerOn_51 ?_
  refine b_iload_n hO dX12_cornerOn_54 3 rfl rfl ?_
  refine b_iconst hO dX12_cornerOn_55 ic_i_2 ?_
  refine b_iadd hO dX12_cornerOn_56 ?_
  refine b_iald hO kLY_1 (n := 1800) rfl dX12_cornerOn_57 ?_
  refine b_ior hO dX12_cornerOn_58 ?_
  refine b_iast hO kLY_30 (n := 110) rfl dX12_cornerOn_59 ?_
  refine b_bnd (fun M59 => ?_)
  refine b_iload_n hO dX12_cornerOn_60 0 rfl rfl ?_
  refine b_iconst hO dX12_cornerOn_61 ic_i_m1 ?_
  refine b_icmp_eq hO dX12_cornerOn_62 (tgt := 73) (by decide) ?_ ?_
  · refine b_sub [1, 2] rfl ?_
    exact tfX12_cornerOn_73 n0 hO _ _
  · refine b_aload_n hO dX12_cornerOn_65 1 rfl rfl ?_
    refine b_iload_n hO dX12_cornerOn_66 0 rfl rfl ?_
    refine b_callVI hO mdX12_isThing mvX12_isThing w1725 (ci := 12) rfl rfl (by decide) kLY_0 (As := [.int _]) (st := []) (ctX12_isThing n0 hO.2.2.2.2.2.2.1 _ _) (Nat.le_of_ble_eq_true rfl) rfl rfl (Nat.le_of_ble_eq_true rfl) dX12_cornerOn_67 (fun z67 => ?_)
    refine b_if_eq hO dX12_cornerOn_70 (tgt := 91) (by decide) ?_ ?_
    · refine b_iconst hO dX12_cornerOn_91 ic_i_0 ?_
      exact b_zretc hO (Or.inl rfl) dX12_cornerOn_92
    · refine b_sub [1, 2] rfl ?_
      exact tfX12_cornerOn_73 n0 hO _ _
theorem tfX12_cornerOn (n0 : Nat) (hO : OKc p (rmL 2) s m args meth c LY D cy ad cX12_cornerOn RX12 4 2 (some .boolean)) (x1 : Int32) (x2 : Int32) (M : Mem) : BL p l e (rmL 2) s m args below meth c LY D cy ad 4 (QI LY D cy ad) 0 [(0, .ref (ad 0)), (1, .int x1), (2, .int x2)] [] M (fX12_cornerOn n0 x1 x2 M) := by
  unfold fX12_cornerOn
  refine b_aload_n hO dX12_cornerOn_0 0 rfl rfl ?_
  refine b_get hO flX12_7 kLY_0 (v := .ref (ad 1)) rfl dX12_cornerOn_1 ?_
  refine b_iload_n hO dX12_cornerOn_4 2 rfl rfl ?_
  refine b_iald hO kLY_1 (n := 1800) rfl dX12_cornerOn_5 ?_
  refine b_sipush hO dX12_cornerOn_6 ic_s_255 ?_
  refine b_icmp_ne hO dX12_cornerOn_9 (tgt := 16) (by decide) ?_ ?_
  · refine b_aload_n hO dX12_cornerOn_16 0 rfl rfl ?_
    refine b_get hO flX12_7 kLY_0 (v := .ref (ad 1)) rfl dX12_cornerOn_17 ?_
    refine b_iload_n hO dX12_cornerOn_20 2 rfl rfl ?_
    refine b_iald hO kLY_1 (n := 1800) rfl dX12_cornerOn_21 ?_
    exact tfX12_cornerOn_22 n0 hO _ _ _ _
  · refine b_iconst hO dX12_cornerOn_12 ic_i_m1 ?_
    refine b_goto hO dX12_cornerOn_13 (tgt := 22) (by decide) ?_
    exact tfX12_cornerOn_22 n0 hO _ _ _ _
theorem ctX12_cornerOn (n0 : Nat) (hI : Inj LY ad) (x1 : Int32) (x2 : Int32) (M : Mem) : CT l LY D cy ad yX12_cornerOn cX12_cornerOn 4 (some .boolean) 2 (QI LY D cy ad) [.ref (ad 0), .int x1, .int x2] M (fX12_cornerOn n0 x1 x2 M) :=
  CT.mk LYok hI (by decide) (Nat.le_of_ble_eq_true rfl) (fun hO => tfX12_cornerOn n0 hO x1 x2 M)
/-! X12_comesOn -/
def bX12_comesOn_191 (n0 : Nat) (k191 : Int32 → Int32 → Mem → Option (Int32 × Mem)) (x2 : Int32) (x4 : Int32) (M : Mem) : Option (Int32 × Mem) :=
  if oob (gI M 13) 2 then none else
  if (gA M 10 (Int32.toNatClampNeg (gI M 13))) ≤ x4 then
    some ((1 : Int32), M)
  else
    if oob (x2 + x4) 1800 then none else
    if (gA M 1 (Int32.toNatClampNeg (x2 + x4))) ≤ (1 : Int32) then
      if oob (1 : Int32) 22 then none else
      if oob (x2 + x4) 1800 then none else
      if oob (1 : Int32) 22 then none else
      bnd (sA M 31 (Int32.toNatClampNeg (1 : Int32)) ((gA M 31 (Int32.toNatClampNeg (1 : Int32))) ||| ((gA M 1 (Int32.toNatClampNeg (x2 + x4))) <<< (x4 &&& 31)))) fun M240 =>
      k191 x2 (x4 + (1 : Int32)) M240
    else
      some ((0 : Int32), M)
def fX12_comesOn_191 (n0 : Nat) : Int32 → Int32 → Mem → Option (Int32 × Mem) := loopN (bX12_comesOn_191 n0) (fun _ _ _ => none) n0
def bX12_comesOn_151 (n0 : Nat) (k151 : Int32 → Int32 → Mem → Option (Int32 × Mem)) (x2 : Int32) (x4 : Int32) (M : Mem) : Option (Int32 × Mem) :=
  if oob (gI M 13) 2 then none else
  if (gA M 5 (Int32.toNatClampNeg (gI M 13))) ≤ x4 then
    fX12_comesOn_191 n0 x2 (0 : Int32) M
  else
    (fX12_cornerOn n0 x4 ((2 : Int32) + ((3 : Int32) * x4)) M).bind fun z174 =>
    if z174.1 = 0 then
      some ((0 : Int32), z174.2)
    else
      k151 x2 (x4 + (1 : Int32)) z174.2
def fX12_comesOn_151 (n0 : Nat) : Int32 → Int32 → Mem → Option (Int32 × Mem) := loopN (bX12_comesOn_151 n0) (fun _ _ _ => none) n0
def bX12_comesOn_62 (n0 : Nat) (k62 : Int32 → Int32 → Int32 → Int32 → Mem → Option (Int32 × Mem)) (x1 : Int32) (x2 : Int32) (x3 : Int32) (x4 : Int32) (M : Mem) : Option (Int32 × Mem) :=
  if (x1 - (1 : Int32)) ≤ x4 then
    if oob (x1 - (1 : Int32)) 1800 then none else
    if (gA M 1 (Int32.toNatClampNeg (x1 - (1 : Int32)))) = x3 then
      (fX12_copies n0 (1 : Int32) (0 : Int32) M).bind fun z109 =>
      if oob (0 : Int32) 1800 then none else
      if oob (1 : Int32) 1800 then none else
      if oob (1 : Int32) 22 then none else
      bnd (sA z109 28 (Int32.toNatClampNeg (1 : Int32)) (((gA z109 1 (Int32.toNatClampNeg (0 : Int32))) <<< ((8 : Int32) &&& 31)) ||| (gA z109 1 (Int32.toNatClampNeg (1 : Int32))))) fun M133 =>
      if oob (1 : Int32) 22 then none else
      bnd (sA M133 31 (Int32.toNatClampNeg (1 : Int32)) (0 : Int32)) fun M140 =>
      if oob (1 : Int32) 22 then none else
      bnd (sA M140 32 (Int32.toNatClampNeg (1 : Int32)) (0 : Int32)) fun M147 =>
      fX12_comesOn_151 n0 x2 (0 : Int32) M147
    else
      some ((0 : Int32), M)
  else
    if oob x4 1800 then none else
    if (251 : Int32) = 0 then none else
    bnd (rem32 (((5 : Int32) * x3) + (gA M 1 (Int32.toNatClampNeg x4))) (251 : Int32)) fun x3_85 =>
    k62 x1 x2 x3_85 (x4 + (1 : Int32)) M
def fX12_comesOn_62 (n0 : Nat) : Int32 → Int32 → Int32 → Int32 → Mem → Option (Int32 × Mem) := loopN (bX12_comesOn_62 n0) (fun _ _ _ _ _ => none) n0
def fX12_comesOn (n0 : Nat) (x1 : Int32) (M : Mem) : Option (Int32 × Mem) :=
  if oob (gI M 13) 2 then none else
  bnd ((2 : Int32) + ((3 : Int32) * (gA M 5 (Int32.toNatClampNeg (gI M 13))))) fun x2_13 =>
  if oob (gI M 13) 2 then none else
  if x1 = ((x2_13 + (gA M 10 (Int32.toNatClampNeg (gI M 13)))) + (1 : Int32)) then
    if oob (0 : Int32) 1800 then none else
    if oob (1 : Int32) 1800 then none else
    if (((gA M 1 (Int32.toNatClampNeg (0 : Int32))) <<< ((8 : Int32) &&& 31)) ||| (gA M 1 (Int32.toNatClampNeg (1 : Int32)))) ≤ (9999 : Int32) then
      fX12_comesOn_62 n0 x1 x2_13 (227 : Int32) (0 : Int32) M
    else
      some ((0 : Int32), M)
  else
    some ((0 : Int32), M)
theorem tbX12_comesOn_191 (n0 : Nat) (hO : OKc p (rmL 3) s m args meth c LY D cy ad cX12_comesOn RX12 5 3 (some .boolean)) (k191 : Int32 → Int32 → Mem → Option (Int32 × Mem)) (hk191 : ∀ (x2 : Int32) (x4 : Int32) (M : Mem), BL p l e (rmL 3) s m args below meth c LY D cy ad 5 (QI LY D cy ad) 191 [(0, .ref (ad 0)), (2, .int x2), (4, .int x4)] [] M (k191 x2 x4 M)) (x2 : Int32) (x4 : Int32) (M : Mem) : BL p l e (rmL 3) s m args below meth c LY D cy ad 5 (QI LY D cy ad) 191 [(0, .ref (ad 0)), (2, .int x2), (4, .int x4)] [] M (bX12_comesOn_191 n0 k191 x2 x4 M) := by
  unfold bX12_comesOn_191
  refine b_iload hO dX12_comesOn_191 2 rfl ?_
  refine b_aload_n hO dX12_comesOn_193 0 rfl rfl ?_
  refine b_get hO flX12_78 kLY_0 (v := .ref (ad 10)) rfl dX12_comesOn_194 ?_
  refine b_aload_n hO dX12_comesOn_197 0 rfl rfl ?_
  refine b_get hO flX12_51 kLY_0 (v := .int (gI _ 13)) rfl dX12_comesOn_198 ?_
  refine b_iald hO kLY_10 (n := 2) rfl dX12_comesOn_201 ?_
  refine b_icmp_ge hO dX12_comesOn_202 (tgt := 247) (by decide) ?_ ?_
  · refine b_iconst hO dX12_comesOn_247 ic_i_1 ?_
    exact b_zretc hO (Or.inr rfl) dX12_comesOn_248
  · refine b_aload_n hO dX12_comesOn_205 0 rfl rfl ?_
    refine b_get hO flX12_7 kLY_0 (v := .ref (ad 1)) rfl dX12_comesOn_206 ?_
    refine b_iload_n hO dX12_comesOn_209 1 rfl rfl ?_
    refine b_iload hO dX12_comesOn_210 2 rfl ?_
    refine b_iadd hO dX12_comesOn_212 ?_
    refine b_iald hO kLY_1 (n := 1800) rfl dX12_comesOn_213 ?_
    refine b_iconst hO dX12_comesOn_214 ic_i_1 ?_
    refine b_icmp_le hO dX12_comesOn_215 (tgt := 220) (by decide) ?_ ?_
    · refine b_aload_n hO dX12_comesOn_220 0 rfl rfl ?_
      refine b_get hO flX12_165 kLY_0 (v := .ref (ad 31)) rfl dX12_comesOn_221 ?_
      refine b_iconst hO dX12_comesOn_224 ic_i_1 ?_
      refine b_dup2 hO dX12_comesOn_225 rfl rfl ?_
      refine b_iald hO kLY_31 (n := 22) rfl dX12_comesOn_226 ?_
      refine b_aload_n hO dX12_comesOn_227 0 rfl rfl ?_
      refine b_get hO flX12_7 kLY_0 (v := .ref (ad 1)) rfl dX12_comesOn_228 ?_
      refine b_iload_n hO dX12_comesOn_231 1 rfl rfl ?_
      refine b_iload hO dX12_comesOn_232 2 rfl ?_
      refine b_iadd hO dX12_comesOn_234 ?_
      refine b_iald hO kLY_1 (n := 1800) rfl dX12_comesOn_235 ?_
      refine b_iload hO dX12_comesOn_236 2 rfl ?_
      refine b_ishl hO dX12_comesOn_238 ?_
      refine b_ior hO dX12_comesOn_239 ?_
      refine b_iast hO kLY_31 (n := 22) rfl dX12_comesOn_240 ?_
      refine b_bnd (fun M240 => ?_)
      refine b_iinc hO dX12_comesOn_241 2 rfl ic_i_1 (by decide) (lv' := [(4, .int _), (0, .ref _), (2, .int _)]) rfl ?_
      refine b_goto hO dX12_comesOn_244 (tgt := 191) (by decide) ?_
      refine b_sub [1, 2, 0] rfl ?_
      exact hk191 _ _ _
    · refine b_iconst hO dX12_comesOn_218 ic_i_0 ?_
      exact b_zretc hO (Or.inl rfl) dX12_comesOn_219
theorem lX12_comesOn_191 (n0 : Nat) (hO : OKc p (rmL 3) s m args meth c LY D cy ad cX12_comesOn RX12 5 3 (some .boolean)) : ∀ (w : Nat) (x2 : Int32) (x4 : Int32) (M : Mem), BL p l e (rmL 3) s m args below meth c LY D cy ad 5 (QI LY D cy ad) 191 [(0, .ref (ad 0)), (2, .int x2), (4, .int x4)] [] M (loopN (bX12_comesOn_191 n0) (fun _ _ _ => none) w x2 x4 M) := by
  intro w
  induction w with
  | zero =>
    intros
    exact b_none
  | succ w ih =>
    intro x2 x4 M
    exact tbX12_comesOn_191 n0 hO _ ih x2 x4 M
theorem tfX12_comesOn_191 (n0 : Nat) (hO : OKc p (rmL 3) s m args meth c LY D cy ad cX12_comesOn RX12 5 3 (some .boolean)) (x2 : Int32) (x4 : Int32) (M : Mem) : BL p l e (rmL 3) s m args below meth c LY D cy ad 5 (QI LY D cy ad) 191 [(0, .ref (ad 0)), (2, .int x2), (4, .int x4)] [] M (fX12_comesOn_191 n0 x2 x4 M) := lX12_comesOn_191 n0 hO n0 x2 x4 M
theorem tbX12_comesOn_151 (n0 : Nat) (hO : OKc p (rmL 3) s m args meth c LY D cy ad cX12_comesOn RX12 5 3 (some .boolean)) (k151 : Int32 → Int32 → Mem → Option (Int32 × Mem)) (hk151 : ∀ (x2 : Int32) (x4 : Int32) (M : Mem), BL p l e (rmL 3) s m args below meth c LY D cy ad 5 (QI LY D cy ad) 151 [(0, .ref (ad 0)), (2, .int x2), (4, .int x4)] [] M (k151 x2 x4 M)) (x2 : Int32) (x4 : Int32) (M : Mem) : BL p l e (rmL 3) s m args below meth c LY D cy ad 5 (QI LY D cy ad) 151 [(0, .ref (ad 0)), (2, .int x2), (4, .int x4)] [] M (bX12_comesOn_151 n0 k151 x2 x4 M) := by
  unfold bX12_comesOn_151
  refine b_iload hO dX12_comesOn_151 2 rfl ?_
  refine b_aload_n hO dX12_comesOn_153 0 rfl rfl ?_
  refine b_get hO flX12_63 kLY_0 (v := .ref (ad 5)) rfl dX12_comesOn_154 ?_
  refine b_aload_n hO dX12_comesOn_157 0 rfl rfl ?_
  refine b_get hO flX12_51 kLY_0 (v := .int (gI _ 13)) rfl dX12_comesOn_158 ?_
  refine b_iald hO kLY_5 (n := 2) rfl dX12_comesOn_161 ?_
  refine b_icmp_ge hO dX12_comesOn_162 (tgt := 188) (by decide) ?_ ?_
  · refine b_iconst hO dX12_comesOn_188 ic_i_0 ?_
    refine b_istore hO dX12_comesOn_189 (by decide) (lv' := [(4, .int _), (0, .ref _), (2, .int _)]) rfl ?_
    refine b_sub [1, 2, 0] rfl ?_
    exact tfX12_comesOn_191 n0 hO _ _ _
  · refine b_aload_n hO dX12_comesOn_165 0 rfl rfl ?_
    refine b_iload hO dX12_comesOn_166 2 rfl ?_
    refine b_iconst hO dX12_comesOn_168 ic_i_2 ?_
    refine b_iconst hO dX12_comesOn_169 ic_i_3 ?_
    refine b_iload hO dX12_comesOn_170 2 rfl ?_
    refine b_imul hO dX12_comesOn_172 ?_
    refine b_iadd hO dX12_comesOn_173 ?_
    refine b_callVI hO mdX12_cornerOn mvX12_cornerOn w1880 (ci := 12) rfl rfl (by decide) kLY_0 (As := [.int _, .int _]) (st := []) (ctX12_cornerOn n0 hO.2.2.2.2.2.2.1 _ _ _) (Nat.le_of_ble_eq_true rfl) rfl rfl (Nat.le_of_ble_eq_true rfl) dX12_comesOn_174 (fun z174 => ?_)
    refine b_if_ne hO dX12_comesOn_177 (tgt := 182) (by decide) ?_ ?_
    · refine b_iinc hO dX12_comesOn_182 2 rfl ic_i_1 (by decide) (lv' := [(4, .int _), (0, .ref _), (2, .int _)]) rfl ?_
      refine b_goto hO dX12_comesOn_185 (tgt := 151) (by decide) ?_
      refine b_sub [1, 2, 0] rfl ?_
      exact hk151 _ _ _
    · refine b_iconst hO dX12_comesOn_180 ic_i_0 ?_
      exact b_zretc hO (Or.inl rfl) dX12_comesOn_181
theorem lX12_comesOn_151 (n0 : Nat) (hO : OKc p (rmL 3) s m args meth c LY D cy ad cX12_comesOn RX12 5 3 (some .boolean)) : ∀ (w : Nat) (x2 : Int32) (x4 : Int32) (M : Mem), BL p l e (rmL 3) s m args below meth c LY D cy ad 5 (QI LY D cy ad) 151 [(0, .ref (ad 0)), (2, .int x2), (4, .int x4)] [] M (loopN (bX12_comesOn_151 n0) (fun _ _ _ => none) w x2 x4 M) := by
  intro w
  induction w with
  | zero =>
    intros
    exact b_none
  | succ w ih =>
    intro x2 x4 M
    exact tbX12_comesOn_151 n0 hO _ ih x2 x4 M
theorem tfX12_comesOn_151 (n0 : Nat) (hO : OKc p (rmL 3) s m args meth c LY D cy ad cX12_comesOn RX12 5 3 (some .boolean)) (x2 : Int32) (x4 : Int32) (M : Mem) : BL p l e (rmL 3) s m args below meth c LY D cy ad 5 (QI LY D cy ad) 151 [(0, .ref (ad 0)), (2, .int x2), (4, .int x4)] [] M (fX12_comesOn_151 n0 x2 x4 M) := lX12_comesOn_151 n0 hO n0 x2 x4 M
theorem tbX12_comesOn_62 (n0 : Nat) (hO : OKc p (rmL 3) s m args meth c LY D cy ad cX12_comesOn RX12 5 3 (some .boolean)) (k62 : Int32 → Int32 → Int32 → Int32 → Mem → Option (Int32 × Mem)) (hk62 : ∀ (x1 : Int32) (x2 : Int32) (x3 : Int32) (x4 : Int32) (M : Mem), BL p l e (rmL 3) s m args below meth c LY D cy ad 5 (QI LY D cy ad) 62 [(0, .ref (ad 0)), (1, .int x1), (2, .int x2), (3, .int x3), (4, .int x4)] [] M (k62 x1 x2 x3 x4 M)) (x1 : Int32) (x2 : Int32) (x3 : Int32) (x4 : Int32) (M : Mem) : BL p l e (rmL 3) s m args below meth c LY D cy ad 5 (QI LY D cy ad) 62 [(0, .ref (ad 0)), (1, .int x1), (2, .int x2), (3, .int x3), (4, .int x4)] [] M (bX12_comesOn_62 n0 k62 x1 x2 x3 x4 M) := by
  unfold bX12_comesOn_62
  refine b_iload hO dX12_comesOn_62 4 rfl ?_
  refine b_iload_n hO dX12_comesOn_64 1 rfl rfl ?_
  refine b_iconst hO dX12_comesOn_65 ic_i_1 ?_
  refine b_isub hO dX12_comesOn_66 ?_
  refine b_icmp_ge hO dX12_comesOn_67 (tgt := 92) (by decide) ?_ ?_
  · refine b_aload_n hO dX12_comesOn_92 0 rfl rfl ?_
    refine b_get hO flX12_7 kLY_0 (v := .ref (ad 1)) rfl dX12_comesOn_93 ?_
    refine b_iload_n hO dX12_comesOn_96 1 rfl rfl ?_
    refine b_iconst hO dX12_comesOn_97 ic_i_1 ?_
    refine b_isub hO dX12_comesOn_98 ?_
    refine b_iald hO kLY_1 (n := 1800) rfl dX12_comesOn_99 ?_
    refine b_iload_n hO dX12_comesOn_100 3 rfl rfl ?_
    refine b_icmp_eq hO dX12_comesOn_101 (tgt := 106) (by decide) ?_ ?_
    · refine b_aload_n hO dX12_comesOn_106 0 rfl rfl ?_
      refine b_iconst hO dX12_comesOn_107 ic_i_1 ?_
      refine b_iconst hO dX12_comesOn_108 ic_i_0 ?_
      refine b_callVV hO mdX12_copies mvX12_copies w1705 (ci := 12) rfl rfl (by decide) kLY_0 (As := [.int _, .int _]) (st := []) (ctX12_copies n0 hO.2.2.2.2.2.2.1 _ _ _) (Nat.le_of_ble_eq_true rfl) rfl rfl (Nat.le_of_ble_eq_true rfl) dX12_comesOn_109 (fun z109 => ?_)
      refine b_aload_n hO dX12_comesOn_112 0 rfl rfl ?_
      refine b_get hO flX12_156 kLY_0 (v := .ref (ad 28)) rfl dX12_comesOn_113 ?_
      refine b_iconst hO dX12_comesOn_116 ic_i_1 ?_
      refine b_aload_n hO dX12_comesOn_117 0 rfl rfl ?_
      refine b_get hO flX12_7 kLY_0 (v := .ref (ad 1)) rfl dX12_comesOn_118 ?_
      refine b_iconst hO dX12_comesOn_121 ic_i_0 ?_
      refine b_iald hO kLY_1 (n := 1800) rfl dX12_comesOn_122 ?_
      refine b_bipush hO dX12_comesOn_123 ic_b_8 ?_
      refine b_ishl hO dX12_comesOn_125 ?_
      refine b_aload_n hO dX12_comesOn_126 0 rfl rfl ?_
      refine b_get hO flX12_7 kLY_0 (v := .ref (ad 1)) rfl dX12_comesOn_127 ?_
      refine b_iconst hO dX12_comesOn_130 ic_i_1 ?_
      refine b_iald hO kLY_1 (n := 1800) rfl dX12_comesOn_131 ?_
      refine b_ior hO dX12_comesOn_132 ?_
      refine b_iast hO kLY_28 (n := 22) rfl dX12_comesOn_133 ?_
      refine b_bnd (fun M133 => ?_)
      refine b_aload_n hO dX12_comesOn_134 0 rfl rfl ?_
      refine b_get hO flX12_165 kLY_0 (v := .ref (ad 31)) rfl dX12_comesOn_135 ?_
      refine b_iconst hO dX12_comesOn_138 ic_i_1 ?_
      refine b_iconst hO dX12_comesOn_139 ic_i_0 ?_
      refine b_iast hO kLY_31 (n := 22) rfl dX12_comesOn_140 ?_
      refine b_bnd (fun M140 => ?_)
      refine b_aload_n hO dX12_comesOn_141 0 rfl rfl ?_
      refine b_get hO flX12_168 kLY_0 (v := .ref (ad 32)) rfl dX12_comesOn_142 ?_
      refine b_iconst hO dX12_comesOn_145 ic_i_1 ?_
      refine b_iconst hO dX12_comesOn_146 ic_i_0 ?_
      refine b_iast hO kLY_32 (n := 22) rfl dX12_comesOn_147 ?_
      refine b_bnd (fun M147 => ?_)
      refine b_iconst hO dX12_comesOn_148 ic_i_0 ?_
      refine b_istore hO dX12_comesOn_149 (by decide) (lv' := [(4, .int _), (0, .ref _), (1, .int _), (2, .int _), (3, .int _)]) rfl ?_
      refine b_sub [1, 3, 0] rfl ?_
      exact tfX12_comesOn_151 n0 hO _ _ _
    · refine b_iconst hO dX12_comesOn_104 ic_i_0 ?_
      exact b_zretc hO (Or.inl rfl) dX12_comesOn_105
  · refine b_iconst hO dX12_comesOn_70 ic_i_5 ?_
    refine b_iload_n hO dX12_comesOn_71 3 rfl rfl ?_
    refine b_imul hO dX12_comesOn_72 ?_
    refine b_aload_n hO dX12_comesOn_73 0 rfl rfl ?_
    refine b_get hO flX12_7 kLY_0 (v := .ref (ad 1)) rfl dX12_comesOn_74 ?_
    refine b_iload hO dX12_comesOn_77 4 rfl ?_
    refine b_iald hO kLY_1 (n := 1800) rfl dX12_comesOn_79 ?_
    refine b_iadd hO dX12_comesOn_80 ?_
    refine b_sipush hO dX12_comesOn_81 ic_s_251 ?_
    refine b_irem hO dX12_comesOn_84 ?_
    refine b_topI (fun x3_85 => ?_)
    refine b_istore_n hO dX12_comesOn_85 rfl (by decide) (lv' := [(3, .int _), (0, .ref _), (1, .int _), (2, .int _), (4, .int _)]) rfl ?_
    refine b_iinc hO dX12_comesOn_86 4 rfl ic_i_1 (by decide) (lv' := [(4, .int _), (3, .int _), (0, .ref _), (1, .int _), (2, .int _)]) rfl ?_
    refine b_goto hO dX12_comesOn_89 (tgt := 62) (by decide) ?_
    refine b_sub [2, 3, 4, 1, 0] rfl ?_
    exact hk62 _ _ _ _ _
theorem lX12_comesOn_62 (n0 : Nat) (hO : OKc p (rmL 3) s m args meth c LY D cy ad cX12_comesOn RX12 5 3 (some .boolean)) : ∀ (w : Nat) (x1 : Int32) (x2 : Int32) (x3 : Int32) (x4 : Int32) (M : Mem), BL p l e (rmL 3) s m args below meth c LY D cy ad 5 (QI LY D cy ad) 62 [(0, .ref (ad 0)), (1, .int x1), (2, .int x2), (3, .int x3), (4, .int x4)] [] M (loopN (bX12_comesOn_62 n0) (fun _ _ _ _ _ => none) w x1 x2 x3 x4 M) := by
  intro w
  induction w with
  | zero =>
    intros
    exact b_none
  | succ w ih =>
    intro x1 x2 x3 x4 M
    exact tbX12_comesOn_62 n0 hO _ ih x1 x2 x3 x4 M
theorem tfX12_comesOn_62 (n0 : Nat) (hO : OKc p (rmL 3) s m args meth c LY D cy ad cX12_comesOn RX12 5 3 (some .boolean)) (x1 : Int32) (x2 : Int32) (x3 : Int32) (x4 : Int32) (M : Mem) : BL p l e (rmL 3) s m args below meth c LY D cy ad 5 (QI LY D cy ad) 62 [(0, .ref (ad 0)), (1, .int x1), (2, .int x2), (3, .int x3), (4, .int x4)] [] M (fX12_comesOn_62 n0 x1 x2 x3 x4 M) := lX12_comesOn_62 n0 hO n0 x1 x2 x3 x4 M
theorem tfX12_comesOn (n0 : Nat) (hO : OKc p (rmL 3) s m args meth c LY D cy ad cX12_comesOn RX12 5 3 (some .boolean)) (x1 : Int32) (M : Mem) : BL p l e (rmL 3) s m args below meth c LY D cy ad 5 (QI LY D cy ad) 0 [(0, .ref (ad 0)), (1, .int x1)] [] M (fX12_comesOn n0 x1 M) := by
  unfold fX12_comesOn
  refine b_iconst hO dX12_comesOn_0 ic_i_2 ?_
  refine b_iconst hO dX12_comesOn_1 ic_i_3 ?_
  refine b_aload_n hO dX12_comesOn_2 0 rfl rfl ?_
  refine b_get hO flX12_63 kLY_0 (v := .ref (ad 5)) rfl dX12_comesOn_3 ?_
  refine b_aload_n hO dX12_comesOn_6 0 rfl rfl ?_
  refine b_get hO flX12_51 kLY_0 (v := .int (gI _ 13)) rfl dX12_comesOn_7 ?_
  refine b_iald hO kLY_5 (n := 2) rfl dX12_comesOn_10 ?_
  refine b_imul hO dX12_comesOn_11 ?_
  refine b_iadd hO dX12_comesOn_12 ?_
  refine b_topI (fun x2_13 => ?_)
  refine b_istore_n hO dX12_comesOn_13 rfl (by decide) (lv' := [(2, .int _), (0, .ref _), (1, .int _)]) rfl ?_
  refine b_iload_n hO dX12_comesOn_14 2 rfl rfl ?_
  refine b_iload_n hO dX12_comesOn_15 0 rfl rfl ?_
  refine b_aload_n hO dX12_comesOn_16 1 rfl rfl ?_
  refine b_get hO flX12_78 kLY_0 (v := .ref (ad 10)) rfl dX12_comesOn_17 ?_
  refine b_aload_n hO dX12_comesOn_20 1 rfl rfl ?_
  refine b_get hO flX12_51 kLY_0 (v := .int (gI _ 13)) rfl dX12_comesOn_21 ?_
  refine b_iald hO kLY_10 (n := 2) rfl dX12_comesOn_24 ?_
  refine b_iadd hO dX12_comesOn_25 ?_
  refine b_iconst hO dX12_comesOn_26 ic_i_1 ?_
  refine b_iadd hO dX12_comesOn_27 ?_
  refine b_icmp_ne hO dX12_comesOn_28 (tgt := 53) (by decide) ?_ ?_
  · refine b_iconst hO dX12_comesOn_53 ic_i_0 ?_
    exact b_zretc hO (Or.inl rfl) dX12_comesOn_54
  · refine b_aload_n hO dX12_comesOn_31 1 rfl rfl ?_
    refine b_get hO flX12_7 kLY_0 (v := .ref (ad 1)) rfl dX12_comesOn_32 ?_
    refine b_iconst hO dX12_comesOn_35 ic_i_0 ?_
    refine b_iald hO kLY_1 (n := 1800) rfl dX12_comesOn_36 ?_
    refine b_bipush hO dX12_comesOn_37 ic_b_8 ?_
    refine b_ishl hO dX12_comesOn_39 ?_
    refine b_aload_n hO dX12_comesOn_40 1 rfl rfl ?_
    refine b_get hO flX12_7 kLY_0 (v := .ref (ad 1)) rfl dX12_comesOn_41 ?_
    refine b_iconst hO dX12_comesOn_44 ic_i_1 ?_
    refine b_iald hO kLY_1 (n := 1800) rfl dX12_comesOn_45 ?_
    refine b_ior hO dX12_comesOn_46 ?_
    refine b_sipush hO dX12_comesOn_47 ic_s_9999 ?_
    refine b_icmp_le hO dX12_comesOn_50 (tgt := 55) (by decide) ?_ ?_
    · refine b_sipush hO dX12_comesOn_55 ic_s_227 ?_
      refine b_istore_n hO dX12_comesOn_58 rfl (by decide) (lv' := [(3, .int _), (2, .int _), (0, .ref _), (1, .int _)]) rfl ?_
      refine b_iconst hO dX12_comesOn_59 ic_i_0 ?_
      refine b_istore hO dX12_comesOn_60 (by decide) (lv' := [(4, .int _), (3, .int _), (2, .int _), (0, .ref _), (1, .int _)]) rfl ?_
      refine b_sub [3, 4, 2, 1, 0] rfl ?_
      exact tfX12_comesOn_62 n0 hO _ _ _ _ _
    · refine b_iconst hO dX12_comesOn_53 ic_i_0 ?_
      exact b_zretc hO (Or.inl rfl) dX12_comesOn_54
theorem ctX12_comesOn (n0 : Nat) (hI : Inj LY ad) (x1 : Int32) (M : Mem) : CT l LY D cy ad yX12_comesOn cX12_comesOn 5 (some .boolean) 3 (QI LY D cy ad) [.ref (ad 0), .int x1] M (fX12_comesOn n0 x1 M) :=
  CT.mk LYok hI (by decide) (Nat.le_of_ble_eq_true rfl) (fun hO => tfX12_comesOn n0 hO x1 M)
/-! X12_on -/
def fX12_on (n0 : Nat) (M : Mem) : Option (Int32 × Mem) :=
  bnd (gI M 1) fun x1_4 =>
  bnd (sI M 1 (0 : Int32)) fun M7 =>
  (fX12_comesOn n0 x1_4 M7).bind fun z12 =>
  if z12.1 = 0 then
    (fX12_refuses n0 (5 : Int32) z12.2).bind fun z20 =>
    if z20.1 < 0 then
      some ((0 : Int32), z20.2)
    else
      some ((1 : Int32), z20.2)
  else
    (fX12_copies n0 (0 : Int32) (1 : Int32) z12.2).bind fun z35 =>
    bnd (sI z35 54 (0 : Int32)) fun M40 =>
    some ((1 : Int32), M40)
theorem tfX12_on (n0 : Nat) (hO : OKc p (rmL 4) s m args meth c LY D cy ad cX12_on RX12 2 4 (some .boolean)) (M : Mem) : BL p l e (rmL 4) s m args below meth c LY D cy ad 2 (QI LY D cy ad) 0 [(0, .ref (ad 0))] [] M (fX12_on n0 M) := by
  unfold fX12_on
  refine b_aload_n hO dX12_on_0 0 rfl rfl ?_
  refine b_get hO flX12_13 kLY_0 (v := .int (gI _ 1)) rfl dX12_on_1 ?_
  refine b_topI (fun x1_4 => ?_)
  refine b_istore_n hO dX12_on_4 rfl (by decide) (lv' := [(1, .int _), (0, .ref _)]) rfl ?_
  refine b_aload_n hO dX12_on_5 1 rfl rfl ?_
  refine b_iconst hO dX12_on_6 ic_i_0 ?_
  refine b_putI hO flX12_13 kLY_0 rfl rfl rfl (id := 1) rfl dX12_on_7 ?_
  refine b_bnd (fun M7 => ?_)
  refine b_aload_n hO dX12_on_10 1 rfl rfl ?_
  refine b_iload_n hO dX12_on_11 0 rfl rfl ?_
  refine b_callVI hO mdX12_comesOn mvX12_comesOn w1876 (ci := 12) rfl rfl (by decide) kLY_0 (As := [.int _]) (st := []) (ctX12_comesOn n0 hO.2.2.2.2.2.2.1 _ _) (Nat.le_of_ble_eq_true rfl) rfl rfl (Nat.le_of_ble_eq_true rfl) dX12_on_12 (fun z12 => ?_)
  refine b_if_ne hO dX12_on_15 (tgt := 32) (by decide) ?_ ?_
  · refine b_aload_n hO dX12_on_32 1 rfl rfl ?_
    refine b_iconst hO dX12_on_33 ic_i_0 ?_
    refine b_iconst hO dX12_on_34 ic_i_1 ?_
    refine b_callVV hO mdX12_copies mvX12_copies w1705 (ci := 12) rfl rfl (by decide) kLY_0 (As := [.int _, .int _]) (st := []) (ctX12_copies n0 hO.2.2.2.2.2.2.1 _ _ _) (Nat.le_of_ble_eq_true rfl) rfl rfl (Nat.le_of_ble_eq_true rfl) dX12_on_35 (fun z35 => ?_)
    refine b_aload_n hO dX12_on_38 1 rfl rfl ?_
    refine b_iconst hO dX12_on_39 ic_i_0 ?_
    refine b_putI hO flX12_177 kLY_0 rfl rfl rfl (id := 54) rfl dX12_on_40 ?_
    refine b_bnd (fun M40 => ?_)
    refine b_iconst hO dX12_on_43 ic_i_1 ?_
    exact b_zretc hO (Or.inr rfl) dX12_on_44
  · refine b_aload_n hO dX12_on_18 1 rfl rfl ?_
    refine b_iconst hO dX12_on_19 ic_i_5 ?_
    refine b_callVI hO mdX12_refuses mvX12_refuses w1453 (ci := 12) rfl rfl (by decide) kLY_0 (As := [.int _]) (st := []) (ctX12_refuses n0 hO.2.2.2.2.2.2.1 _ _) (Nat.le_of_ble_eq_true rfl) rfl rfl (Nat.le_of_ble_eq_true rfl) dX12_on_20 (fun z20 => ?_)
    refine b_if_lt hO dX12_on_23 (tgt := 30) (by decide) ?_ ?_
    · refine b_iconst hO dX12_on_30 ic_i_0 ?_
      exact b_zretc hO (Or.inl rfl) dX12_on_31
    · refine b_iconst hO dX12_on_26 ic_i_1 ?_
      refine b_goto hO dX12_on_27 (tgt := 31) (by decide) ?_
      exact b_zretc hO (Or.inr rfl) dX12_on_31
theorem ctX12_on (n0 : Nat) (hI : Inj LY ad) (M : Mem) : CT l LY D cy ad yX12_on cX12_on 2 (some .boolean) 4 (QI LY D cy ad) [.ref (ad 0)] M (fX12_on n0 M) :=
  CT.mk LYok hI (by decide) (Nat.le_of_ble_eq_true rfl) (fun hO => tfX12_on n0 hO M)
end
