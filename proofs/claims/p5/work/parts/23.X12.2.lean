section
variable {p : Program} {l : Launch} {e : Env} {s : State} {m : MethodId} {args : Array Value} {below : List Frame} {meth : Method} {c : Code} {D : va_G} {cy : Nat → ClassId} {ad : Nat → Nat} {dd : Nat}

/-! X12_goesOn -/
def fX12_goesOn_174 (n0 : Nat) (u1 : Int32) (M : Mem) : Option (Int32 × Mem) :=
  (fX12_holdsBack n0 u1 M).bind fun z174 =>
  (fX12_ahead n0 z174).bind fun z178 =>
  bnd (sI z178 45 (0 : Int32)) fun M183 =>
  some ((1 : Int32), M183)
def fX12_goesOn_112 (n0 : Nat) (u1 : Int32) (M : Mem) : Option (Int32 × Mem) :=
  (fX12_joins n0 u1 M).bind fun z112 =>
  (fX12_isSign n0 (43 : Int32) z112).bind fun z119 =>
  if z119.1 = 0 then
    (fX12_isSign n0 (45 : Int32) z119.2).bind fun z133 =>
    if z133.1 = 0 then
      (fX12_isSign n0 (42 : Int32) z133.2).bind fun z147 =>
      if z147.1 = 0 then
        (fX12_isSign n0 (47 : Int32) z147.2).bind fun z161 =>
        if z161.1 = 0 then
          fX12_goesOn_174 n0 (35 : Int32) z161.2
        else
          fX12_goesOn_174 n0 (34 : Int32) z161.2
      else
        fX12_goesOn_174 n0 (33 : Int32) z147.2
    else
      fX12_goesOn_174 n0 (32 : Int32) z133.2
  else
    fX12_goesOn_174 n0 (31 : Int32) z119.2
def fX12_goesOn_106 (n0 : Nat) (M : Mem) : Option (Int32 × Mem) :=
  fX12_goesOn_112 n0 (5 : Int32) M
def fX12_goesOn_87 (n0 : Nat) (M : Mem) : Option (Int32 × Mem) :=
  (fX12_isSign n0 (43 : Int32) M).bind fun z91 =>
  if z91.1 = 0 then
    (fX12_isSign n0 (45 : Int32) z91.2).bind fun z100 =>
    if z100.1 = 0 then
      fX12_goesOn_112 n0 (6 : Int32) z100.2
    else
      fX12_goesOn_106 n0 z100.2
  else
    fX12_goesOn_106 n0 z91.2
def fX12_goesOn_264 (n0 : Nat) (x1 : Int32) (u1 : Int32) (M : Mem) : Option (Int32 × Mem) :=
  (fX12_holdsBack n0 u1 M).bind fun z264 =>
  if oob x1 20 then none else
  bnd (sA z264 22 (Int32.toNatClampNeg x1) (1 : Int32)) fun M273 =>
  (fX12_ahead n0 M273).bind fun z275 =>
  bnd (sI z275 45 (0 : Int32)) fun M280 =>
  some ((1 : Int32), M280)
def fX12_goesOn_228 (n0 : Nat) (x1 : Int32) (M : Mem) : Option (Int32 × Mem) :=
  (fX12_joins n0 (5 : Int32) M).bind fun z230 =>
  (fX12_isSign n0 (60 : Int32) z230).bind fun z237 =>
  if z237.1 = 0 then
    (fX12_isSign n0 (62 : Int32) z237.2).bind fun z251 =>
    if z251.1 = 0 then
      fX12_goesOn_264 n0 x1 (40 : Int32) z251.2
    else
      fX12_goesOn_264 n0 x1 (39 : Int32) z251.2
  else
    fX12_goesOn_264 n0 x1 (38 : Int32) z237.2
def fX12_goesOn_372 (n0 : Nat) (x1 : Int32) (u1 : Int32) (M : Mem) : Option (Int32 × Mem) :=
  (fX12_holdsBack n0 u1 M).bind fun z372 =>
  if oob x1 20 then none else
  bnd (sA z372 22 (Int32.toNatClampNeg x1) (0 : Int32)) fun M381 =>
  if oob x1 20 then none else
  bnd (sA M381 23 (Int32.toNatClampNeg x1) (1 : Int32)) fun M388 =>
  (fX12_ahead n0 M388).bind fun z390 =>
  bnd (sI z390 45 (0 : Int32)) fun M395 =>
  some ((1 : Int32), M395)
def fX12_goesOn_356 (n0 : Nat) (x1 : Int32) (x4 : Int32) (u1 : Int32) (M : Mem) : Option (Int32 × Mem) :=
  (fX12_joins n0 u1 M).bind fun z356 =>
  if x4 = 0 then
    fX12_goesOn_372 n0 x1 (42 : Int32) z356
  else
    fX12_goesOn_372 n0 x1 (41 : Int32) z356
def fX12_goesOn_327 (n0 : Nat) (x1 : Int32) (M : Mem) : Option (Int32 × Mem) :=
  if (gI M 8) ≤ 0 then
    (fX12_isWord n0 (6385252 : Int64) M).bind fun z340 =>
    if z340.1 = 0 then
      fX12_goesOn_356 n0 x1 z340.1 (1 : Int32) z340.2
    else
      fX12_goesOn_356 n0 x1 z340.1 (2 : Int32) z340.2
  else
    some ((0 : Int32), M)
def fX12_goesOn_309 (n0 : Nat) (x1 : Int32) (M : Mem) : Option (Int32 × Mem) :=
  if oob x1 20 then none else
  if (gA M 22 (Int32.toNatClampNeg x1)) = 0 then
    (fX12_blame n0 (1 : Int32) (gI M 4) M).bind fun z324 =>
    fX12_goesOn_327 n0 x1 z324
  else
    fX12_goesOn_327 n0 x1 M
def fX12_goesOn_499 (n0 : Nat) (x1 : Int32) (u1 : Int32) (u2 : Int32) (M : Mem) : Option (Int32 × Mem) :=
  if oob u1 20 then none else
  bnd (sA M 21 (Int32.toNatClampNeg u1) u2) fun M499 =>
  if oob x1 20 then none else
  bnd (sA M499 22 (Int32.toNatClampNeg x1) (0 : Int32)) fun M506 =>
  (fX12_ahead n0 M506).bind fun z508 =>
  bnd (sI z508 45 (0 : Int32)) fun M513 =>
  some ((1 : Int32), M513)
def fX12_goesOn_470 (n0 : Nat) (x1 : Int32) (x2 : Int32) (M : Mem) : Option (Int32 × Mem) :=
  if (gI M 8) ≤ 0 then
    (fX12_joins n0 (1 : Int32) M).bind fun z481 =>
    if x2 = (3 : Int32) then
      fX12_goesOn_499 n0 x1 x1 (4 : Int32) z481
    else
      fX12_goesOn_499 n0 x1 x1 (3 : Int32) z481
  else
    some ((0 : Int32), M)
def fX12_goesOn_452 (n0 : Nat) (x1 : Int32) (x2 : Int32) (M : Mem) : Option (Int32 × Mem) :=
  (fX12_isSign n0 (44 : Int32) M).bind fun z455 =>
  if z455.1 = 0 then
    (fX12_blame n0 (1 : Int32) (gI z455.2 4) z455.2).bind fun z467 =>
    fX12_goesOn_470 n0 x1 x2 z467
  else
    fX12_goesOn_470 n0 x1 x2 z455.2
def fX12_goesOn_613 (n0 : Nat) (M : Mem) : Option (Int32 × Mem) :=
  (fX12_ahead n0 M).bind fun z614 =>
  some ((1 : Int32), z614)
def fX12_goesOn_596 (n0 : Nat) (x2 : Int32) (M : Mem) : Option (Int32 × Mem) :=
  if x2 = (5 : Int32) then
    if oob ((gI M 41) - (1 : Int32)) 20 then none else
    fX12_goesOn_613 n0 (sA M 22 (Int32.toNatClampNeg ((gI M 41) - (1 : Int32))) (2 : Int32))
  else
    fX12_goesOn_613 n0 M
def fX12_goesOn_546 (n0 : Nat) (x1 : Int32) (x2 : Int32) (M : Mem) : Option (Int32 × Mem) :=
  if (gI M 8) ≤ 0 then
    (fX12_joins n0 (1 : Int32) M).bind fun z557 =>
    bnd (sI z557 41 ((gI z557 41) - (1 : Int32))) fun M567 =>
    bnd (sI M567 42 ((gI M567 42) - (1 : Int32))) fun M577 =>
    if x2 = (4 : Int32) then
      if oob x1 20 then none else
      (fX12_add n0 (gA M577 24 (Int32.toNatClampNeg x1)) (0 : Int32) M577).bind fun z593 =>
      fX12_goesOn_596 n0 x2 z593
    else
      fX12_goesOn_596 n0 x2 M577
  else
    some ((0 : Int32), M)
def fX12_goesOn_531 (n0 : Nat) (x1 : Int32) (x2 : Int32) (u1 : Int32) (M : Mem) : Option (Int32 × Mem) :=
  (fX12_isSign n0 u1 M).bind fun z531 =>
  if z531.1 = 0 then
    (fX12_blame n0 (1 : Int32) (gI z531.2 4) z531.2).bind fun z543 =>
    fX12_goesOn_546 n0 x1 x2 z543
  else
    fX12_goesOn_546 n0 x1 x2 z531.2
def fX12_goesOn_422 (n0 : Nat) (x1 : Int32) (x2 : Int32) (M : Mem) : Option (Int32 × Mem) :=
  if (2 : Int32) ≤ x2 then
    if x2 = (3 : Int32) then
      fX12_goesOn_452 n0 x1 x2 M
    else
      if x2 = (6 : Int32) then
        fX12_goesOn_452 n0 x1 x2 M
      else
        if x2 = (5 : Int32) then
          fX12_goesOn_531 n0 x1 x2 (93 : Int32) M
        else
          fX12_goesOn_531 n0 x1 x2 (41 : Int32) M
  else
    if (gI M 8) = 0 then
      (fX12_joins n0 (1 : Int32) M).bind fun z436 =>
      some ((0 : Int32), z436)
    else
      some ((0 : Int32), M)
def fX12_goesOn_400 (n0 : Nat) (x1 : Int32) (x2 : Int32) (x3 : Int32) (M : Mem) : Option (Int32 × Mem) :=
  if x3 = 0 then
    fX12_goesOn_422 n0 x1 x2 M
  else
    if oob x1 20 then none else
    if (gA M 22 (Int32.toNatClampNeg x1)) = 0 then
      (fX12_blame n0 (1 : Int32) (gI M 4) M).bind fun z419 =>
      fX12_goesOn_422 n0 x1 x2 z419
    else
      fX12_goesOn_422 n0 x1 x2 M
def fX12_goesOn_285 (n0 : Nat) (x1 : Int32) (x2 : Int32) (x3 : Int32) (M : Mem) : Option (Int32 × Mem) :=
  if x3 = 0 then
    fX12_goesOn_400 n0 x1 x2 x3 M
  else
    (fX12_isWord n0 (6385252 : Int64) M).bind fun z293 =>
    if z293.1 = 0 then
      (fX12_isWord n0 (28530 : Int64) z293.2).bind fun z303 =>
      if z303.1 = 0 then
        fX12_goesOn_400 n0 x1 x2 x3 z303.2
      else
        fX12_goesOn_309 n0 x1 z303.2
    else
      fX12_goesOn_309 n0 x1 z293.2
def fX12_goesOn_188 (n0 : Nat) (x1 : Int32) (x2 : Int32) (x3 : Int32) (M : Mem) : Option (Int32 × Mem) :=
  if x3 = 0 then
    fX12_goesOn_285 n0 x1 x2 x3 M
  else
    if oob x1 20 then none else
    if (gA M 22 (Int32.toNatClampNeg x1)) = 0 then
      (fX12_isSign n0 (60 : Int32) M).bind fun z204 =>
      if z204.1 = 0 then
        (fX12_isSign n0 (62 : Int32) z204.2).bind fun z213 =>
        if z213.1 = 0 then
          (fX12_isSign n0 (61 : Int32) z213.2).bind fun z222 =>
          if z222.1 = 0 then
            fX12_goesOn_285 n0 x1 x2 x3 z222.2
          else
            fX12_goesOn_228 n0 x1 z222.2
        else
          fX12_goesOn_228 n0 x1 z213.2
      else
        fX12_goesOn_228 n0 x1 z204.2
    else
      fX12_goesOn_285 n0 x1 x2 x3 M
def fX12_goesOn (n0 : Nat) (M : Mem) : Option (Int32 × Mem) :=
  (fX12_lex n0 M).bind fun z1 =>
  if (gI z1 8) ≤ 0 then
    bnd ((gI z1 41) - (1 : Int32)) fun x1_19 =>
    if oob x1_19 20 then none else
    bnd (gA z1 21 (Int32.toNatClampNeg x1_19)) fun x2_26 =>
    (fX12_isTest n0 x2_26 z1).bind fun z28 =>
    if oob x1_19 20 then none else
    if (2 : Int32) ≤ (gA z28.2 22 (Int32.toNatClampNeg x1_19)) then
      fX12_goesOn_188 n0 x1_19 x2_26 z28.1 z28.2
    else
      (fX12_isSign n0 (43 : Int32) z28.2).bind fun z45 =>
      if z45.1 = 0 then
        (fX12_isSign n0 (45 : Int32) z45.2).bind fun z54 =>
        if z54.1 = 0 then
          (fX12_isSign n0 (42 : Int32) z54.2).bind fun z63 =>
          if z63.1 = 0 then
            (fX12_isSign n0 (47 : Int32) z63.2).bind fun z72 =>
            if z72.1 = 0 then
              (fX12_isSign n0 (37 : Int32) z72.2).bind fun z81 =>
              if z81.1 = 0 then
                fX12_goesOn_188 n0 x1_19 x2_26 z28.1 z81.2
              else
                fX12_goesOn_87 n0 z81.2
            else
              fX12_goesOn_87 n0 z72.2
          else
            fX12_goesOn_87 n0 z63.2
        else
          fX12_goesOn_87 n0 z54.2
      else
        fX12_goesOn_87 n0 z45.2
  else
    some ((0 : Int32), z1)
theorem tfX12_goesOn_174 (n0 : Nat) (hO : OKc p (rmL 3) s m args meth c LY D cy ad cX12_goesOn RX12 5 3 (some .boolean)) (u1 : Int32) (M : Mem) : BL p l e (rmL 3) s m args below meth c LY D cy ad 5 (QI LY D cy ad) 174 [(0, .ref (ad 0))] [.int u1, .ref (ad 0)] M (fX12_goesOn_174 n0 u1 M) := by
  unfold fX12_goesOn_174
  refine b_callVV hO mdX12_holdsBack mvX12_holdsBack w1605 (ci := 12) rfl rfl (by decide) kLY_0 (As := [.int _]) (st := []) (ctX12_holdsBack n0 hO.2.2.2.2.2.2.1 _ _) (Nat.le_of_ble_eq_true rfl) rfl rfl (Nat.le_of_ble_eq_true rfl) dX12_goesOn_174 (fun z174 => ?_)
  refine b_aload_n hO dX12_goesOn_177 0 rfl rfl ?_
  refine b_callVV hO mdX12_ahead mvX12_ahead w1473 (ci := 12) rfl rfl (by decide) kLY_0 (As := []) (st := []) (ctX12_ahead n0 hO.2.2.2.2.2.2.1 _) (Nat.le_of_ble_eq_true rfl) rfl rfl (Nat.le_of_ble_eq_true rfl) dX12_goesOn_178 (fun z178 => ?_)
  refine b_aload_n hO dX12_goesOn_181 0 rfl rfl ?_
  refine b_iconst hO dX12_goesOn_182 ic_i_0 ?_
  refine b_putZc hO flX12_150 kLY_0 rfl rfl rfl (id := 45) rfl (Or.inl rfl) dX12_goesOn_183 ?_
  refine b_bnd (fun M183 => ?_)
  refine b_iconst hO dX12_goesOn_186 ic_i_1 ?_
  exact b_zretc hO (Or.inr rfl) dX12_goesOn_187
theorem tfX12_goesOn_112 (n0 : Nat) (hO : OKc p (rmL 3) s m args meth c LY D cy ad cX12_goesOn RX12 5 3 (some .boolean)) (u1 : Int32) (M : Mem) : BL p l e (rmL 3) s m args below meth c LY D cy ad 5 (QI LY D cy ad) 112 [(0, .ref (ad 0))] [.int u1, .ref (ad 0)] M (fX12_goesOn_112 n0 u1 M) := by
  unfold fX12_goesOn_112
  refine b_callVV hO mdX12_joins mvX12_joins w1625 (ci := 12) rfl rfl (by decide) kLY_0 (As := [.int _]) (st := []) (ctX12_joins n0 hO.2.2.2.2.2.2.1 _ _) (Nat.le_of_ble_eq_true rfl) rfl rfl (Nat.le_of_ble_eq_true rfl) dX12_goesOn_112 (fun z112 => ?_)
  refine b_aload_n hO dX12_goesOn_115 0 rfl rfl ?_
  refine b_aload_n hO dX12_goesOn_116 0 rfl rfl ?_
  refine b_bipush hO dX12_goesOn_117 ic_b_43 ?_
  refine b_callVI hO mdX12_isSign mvX12_isSign w1609 (ci := 12) rfl rfl (by decide) kLY_0 (As := [.int _]) (st := [.ref _]) (ctX12_isSign n0 hO.2.2.2.2.2.2.1 _ _) (Nat.le_of_ble_eq_true rfl) rfl rfl (Nat.le_of_ble_eq_true rfl) dX12_goesOn_119 (fun z119 => ?_)
  refine b_if_eq hO dX12_goesOn_122 (tgt := 130) (by decide) ?_ ?_
  · refine b_aload_n hO dX12_goesOn_130 0 rfl rfl ?_
    refine b_bipush hO dX12_goesOn_131 ic_b_45 ?_
    refine b_callVI hO mdX12_isSign mvX12_isSign w1609 (ci := 12) rfl rfl (by decide) kLY_0 (As := [.int _]) (st := [.ref _]) (ctX12_isSign n0 hO.2.2.2.2.2.2.1 _ _) (Nat.le_of_ble_eq_true rfl) rfl rfl (Nat.le_of_ble_eq_true rfl) dX12_goesOn_133 (fun z133 => ?_)
    refine b_if_eq hO dX12_goesOn_136 (tgt := 144) (by decide) ?_ ?_
    · refine b_aload_n hO dX12_goesOn_144 0 rfl rfl ?_
      refine b_bipush hO dX12_goesOn_145 ic_b_42 ?_
      refine b_callVI hO mdX12_isSign mvX12_isSign w1609 (ci := 12) rfl rfl (by decide) kLY_0 (As := [.int _]) (st := [.ref _]) (ctX12_isSign n0 hO.2.2.2.2.2.2.1 _ _) (Nat.le_of_ble_eq_true rfl) rfl rfl (Nat.le_of_ble_eq_true rfl) dX12_goesOn_147 (fun z147 => ?_)
      refine b_if_eq hO dX12_goesOn_150 (tgt := 158) (by decide) ?_ ?_
      · refine b_aload_n hO dX12_goesOn_158 0 rfl rfl ?_
        refine b_bipush hO dX12_goesOn_159 ic_b_47 ?_
        refine b_callVI hO mdX12_isSign mvX12_isSign w1609 (ci := 12) rfl rfl (by decide) kLY_0 (As := [.int _]) (st := [.ref _]) (ctX12_isSign n0 hO.2.2.2.2.2.2.1 _ _) (Nat.le_of_ble_eq_true rfl) rfl rfl (Nat.le_of_ble_eq_true rfl) dX12_goesOn_161 (fun z161 => ?_)
        refine b_if_eq hO dX12_goesOn_164 (tgt := 172) (by decide) ?_ ?_
        · refine b_bipush hO dX12_goesOn_172 ic_b_35 ?_
          exact tfX12_goesOn_174 n0 hO _ _
        · refine b_bipush hO dX12_goesOn_167 ic_b_34 ?_
          refine b_goto hO dX12_goesOn_169 (tgt := 174) (by decide) ?_
          exact tfX12_goesOn_174 n0 hO _ _
      · refine b_bipush hO dX12_goesOn_153 ic_b_33 ?_
        refine b_goto hO dX12_goesOn_155 (tgt := 174) (by decide) ?_
        exact tfX12_goesOn_174 n0 hO _ _
    · refine b_bipush hO dX12_goesOn_139 ic_b_32 ?_
      refine b_goto hO dX12_goesOn_141 (tgt := 174) (by decide) ?_
      exact tfX12_goesOn_174 n0 hO _ _
  · refine b_bipush hO dX12_goesOn_125 ic_b_31 ?_
    refine b_goto hO dX12_goesOn_127 (tgt := 174) (by decide) ?_
    exact tfX12_goesOn_174 n0 hO _ _
theorem tfX12_goesOn_106 (n0 : Nat) (hO : OKc p (rmL 3) s m args meth c LY D cy ad cX12_goesOn RX12 5 3 (some .boolean)) (M : Mem) : BL p l e (rmL 3) s m args below meth c LY D cy ad 5 (QI LY D cy ad) 106 [(0, .ref (ad 0))] [.ref (ad 0)] M (fX12_goesOn_106 n0 M) := by
  unfold fX12_goesOn_106
  refine b_iconst hO dX12_goesOn_106 ic_i_5 ?_
  refine b_goto hO dX12_goesOn_107 (tgt := 112) (by decide) ?_
  exact tfX12_goesOn_112 n0 hO _ _
theorem tfX12_goesOn_87 (n0 : Nat) (hO : OKc p (rmL 3) s m args meth c LY D cy ad cX12_goesOn RX12 5 3 (some .boolean)) (M : Mem) : BL p l e (rmL 3) s m args below meth c LY D cy ad 5 (QI LY D cy ad) 87 [(0, .ref (ad 0))] [] M (fX12_goesOn_87 n0 M) := by
  unfold fX12_goesOn_87
  refine b_aload_n hO dX12_goesOn_87 0 rfl rfl ?_
  refine b_aload_n hO dX12_goesOn_88 0 rfl rfl ?_
  refine b_bipush hO dX12_goesOn_89 ic_b_43 ?_
  refine b_callVI hO mdX12_isSign mvX12_isSign w1609 (ci := 12) rfl rfl (by decide) kLY_0 (As := [.int _]) (st := [.ref _]) (ctX12_isSign n0 hO.2.2.2.2.2.2.1 _ _) (Nat.le_of_ble_eq_true rfl) rfl rfl (Nat.le_of_ble_eq_true rfl) dX12_goesOn_91 (fun z91 => ?_)
  refine b_if_ne hO dX12_goesOn_94 (tgt := 106) (by decide) ?_ ?_
  · exact tfX12_goesOn_106 n0 hO _
  · refine b_aload_n hO dX12_goesOn_97 0 rfl rfl ?_
    refine b_bipush hO dX12_goesOn_98 ic_b_45 ?_
    refine b_callVI hO mdX12_isSign mvX12_isSign w1609 (ci := 12) rfl rfl (by decide) kLY_0 (As := [.int _]) (st := [.ref _]) (ctX12_isSign n0 hO.2.2.2.2.2.2.1 _ _) (Nat.le_of_ble_eq_true rfl) rfl rfl (Nat.le_of_ble_eq_true rfl) dX12_goesOn_100 (fun z100 => ?_)
    refine b_if_eq hO dX12_goesOn_103 (tgt := 110) (by decide) ?_ ?_
    · refine b_bipush hO dX12_goesOn_110 ic_b_6 ?_
      exact tfX12_goesOn_112 n0 hO _ _
    · exact tfX12_goesOn_106 n0 hO _
theorem tfX12_goesOn_264 (n0 : Nat) (hO : OKc p (rmL 3) s m args meth c LY D cy ad cX12_goesOn RX12 5 3 (some .boolean)) (x1 : Int32) (u1 : Int32) (M : Mem) : BL p l e (rmL 3) s m args below meth c LY D cy ad 5 (QI LY D cy ad) 264 [(0, .ref (ad 0)), (1, .int x1)] [.int u1, .ref (ad 0)] M (fX12_goesOn_264 n0 x1 u1 M) := by
  unfold fX12_goesOn_264
  refine b_callVV hO mdX12_holdsBack mvX12_holdsBack w1605 (ci := 12) rfl rfl (by decide) kLY_0 (As := [.int _]) (st := []) (ctX12_holdsBack n0 hO.2.2.2.2.2.2.1 _ _) (Nat.le_of_ble_eq_true rfl) rfl rfl (Nat.le_of_ble_eq_true rfl) dX12_goesOn_264 (fun z264 => ?_)
  refine b_aload_n hO dX12_goesOn_267 0 rfl rfl ?_
  refine b_get hO flX12_125 kLY_0 (v := .ref (ad 22)) rfl dX12_goesOn_268 ?_
  refine b_iload_n hO dX12_goesOn_271 1 rfl rfl ?_
  refine b_iconst hO dX12_goesOn_272 ic_i_1 ?_
  refine b_iast hO kLY_22 (n := 20) rfl dX12_goesOn_273 ?_
  refine b_bnd (fun M273 => ?_)
  refine b_aload_n hO dX12_goesOn_274 0 rfl rfl ?_
  refine b_callVV hO mdX12_ahead mvX12_ahead w1473 (ci := 12) rfl rfl (by decide) kLY_0 (As := []) (st := []) (ctX12_ahead n0 hO.2.2.2.2.2.2.1 _) (Nat.le_of_ble_eq_true rfl) rfl rfl (Nat.le_of_ble_eq_true rfl) dX12_goesOn_275 (fun z275 => ?_)
  refine b_aload_n hO dX12_goesOn_278 0 rfl rfl ?_
  refine b_iconst hO dX12_goesOn_279 ic_i_0 ?_
  refine b_putZc hO flX12_150 kLY_0 rfl rfl rfl (id := 45) rfl (Or.inl rfl) dX12_goesOn_280 ?_
  refine b_bnd (fun M280 => ?_)
  refine b_iconst hO dX12_goesOn_283 ic_i_1 ?_
  exact b_zretc hO (Or.inr rfl) dX12_goesOn_284
theorem tfX12_goesOn_228 (n0 : Nat) (hO : OKc p (rmL 3) s m args meth c LY D cy ad cX12_goesOn RX12 5 3 (some .boolean)) (x1 : Int32) (M : Mem) : BL p l e (rmL 3) s m args below meth c LY D cy ad 5 (QI LY D cy ad) 228 [(0, .ref (ad 0)), (1, .int x1)] [] M (fX12_goesOn_228 n0 x1 M) := by
  unfold fX12_goesOn_228
  refine b_aload_n hO dX12_goesOn_228 0 rfl rfl ?_
  refine b_iconst hO dX12_goesOn_229 ic_i_5 ?_
  refine b_callVV hO mdX12_joins mvX12_joins w1625 (ci := 12) rfl rfl (by decide) kLY_0 (As := [.int _]) (st := []) (ctX12_joins n0 hO.2.2.2.2.2.2.1 _ _) (Nat.le_of_ble_eq_true rfl) rfl rfl (Nat.le_of_ble_eq_true rfl) dX12_goesOn_230 (fun z230 => ?_)
  refine b_aload_n hO dX12_goesOn_233 0 rfl rfl ?_
  refine b_aload_n hO dX12_goesOn_234 0 rfl rfl ?_
  refine b_bipush hO dX12_goesOn_235 ic_b_60 ?_
  refine b_callVI hO mdX12_isSign mvX12_isSign w1609 (ci := 12) rfl rfl (by decide) kLY_0 (As := [.int _]) (st := [.ref _]) (ctX12_isSign n0 hO.2.2.2.2.2.2.1 _ _) (Nat.le_of_ble_eq_true rfl) rfl rfl (Nat.le_of_ble_eq_true rfl) dX12_goesOn_237 (fun z237 => ?_)
  refine b_if_eq hO dX12_goesOn_240 (tgt := 248) (by decide) ?_ ?_
  · refine b_aload_n hO dX12_goesOn_248 0 rfl rfl ?_
    refine b_bipush hO dX12_goesOn_249 ic_b_62 ?_
    refine b_callVI hO mdX12_isSign mvX12_isSign w1609 (ci := 12) rfl rfl (by decide) kLY_0 (As := [.int _]) (st := [.ref _]) (ctX12_isSign n0 hO.2.2.2.2.2.2.1 _ _) (Nat.le_of_ble_eq_true rfl) rfl rfl (Nat.le_of_ble_eq_true rfl) dX12_goesOn_251 (fun z251 => ?_)
    refine b_if_eq hO dX12_goesOn_254 (tgt := 262) (by decide) ?_ ?_
    · refine b_bipush hO dX12_goesOn_262 ic_b_40 ?_
      exact tfX12_goesOn_264 n0 hO _ _ _
    · refine b_bipush hO dX12_goesOn_257 ic_b_39 ?_
      refine b_goto hO dX12_goesOn_259 (tgt := 264) (by decide) ?_
      exact tfX12_goesOn_264 n0 hO _ _ _
  · refine b_bipush hO dX12_goesOn_243 ic_b_38 ?_
    refine b_goto hO dX12_goesOn_245 (tgt := 264) (by decide) ?_
    exact tfX12_goesOn_264 n0 hO _ _ _
theorem tfX12_goesOn_372 (n0 : Nat) (hO : OKc p (rmL 3) s m args meth c LY D cy ad cX12_goesOn RX12 5 3 (some .boolean)) (x1 : Int32) (u1 : Int32) (M : Mem) : BL p l e (rmL 3) s m args below meth c LY D cy ad 5 (QI LY D cy ad) 372 [(0, .ref (ad 0)), (1, .int x1)] [.int u1, .ref (ad 0)] M (fX12_goesOn_372 n0 x1 u1 M) := by
  unfold fX12_goesOn_372
  refine b_callVV hO mdX12_holdsBack mvX12_holdsBack w1605 (ci := 12) rfl rfl (by decide) kLY_0 (As := [.int _]) (st := []) (ctX12_holdsBack n0 hO.2.2.2.2.2.2.1 _ _) (Nat.le_of_ble_eq_true rfl) rfl rfl (Nat.le_of_ble_eq_true rfl) dX12_goesOn_372 (fun z372 => ?_)
  refine b_aload_n hO dX12_goesOn_375 0 rfl rfl ?_
  refine b_get hO flX12_125 kLY_0 (v := .ref (ad 22)) rfl dX12_goesOn_376 ?_
  refine b_iload_n hO dX12_goesOn_379 1 rfl rfl ?_
  refine b_iconst hO dX12_goesOn_380 ic_i_0 ?_
  refine b_iast hO kLY_22 (n := 20) rfl dX12_goesOn_381 ?_
  refine b_bnd (fun M381 => ?_)
  refine b_aload_n hO dX12_goesOn_382 0 rfl rfl ?_
  refine b_get hO flX12_128 kLY_0 (v := .ref (ad 23)) rfl dX12_goesOn_383 ?_
  refine b_iload_n hO dX12_goesOn_386 1 rfl rfl ?_
  refine b_iconst hO dX12_goesOn_387 ic_i_1 ?_
  refine b_zastc hO kLY_23 (n := 20) rfl (Or.inr rfl) dX12_goesOn_388 ?_
  refine b_bnd (fun M388 => ?_)
  refine b_aload_n hO dX12_goesOn_389 0 rfl rfl ?_
  refine b_callVV hO mdX12_ahead mvX12_ahead w1473 (ci := 12) rfl rfl (by decide) kLY_0 (As := []) (st := []) (ctX12_ahead n0 hO.2.2.2.2.2.2.1 _) (Nat.le_of_ble_eq_true rfl) rfl rfl (Nat.le_of_ble_eq_true rfl) dX12_goesOn_390 (fun z390 => ?_)
  refine b_aload_n hO dX12_goesOn_393 0 rfl rfl ?_
  refine b_iconst hO dX12_goesOn_394 ic_i_0 ?_
  refine b_putZc hO flX12_150 kLY_0 rfl rfl rfl (id := 45) rfl (Or.inl rfl) dX12_goesOn_395 ?_
  refine b_bnd (fun M395 => ?_)
  refine b_iconst hO dX12_goesOn_398 ic_i_1 ?_
  exact b_zretc hO (Or.inr rfl) dX12_goesOn_399
theorem tfX12_goesOn_356 (n0 : Nat) (hO : OKc p (rmL 3) s m args meth c LY D cy ad cX12_goesOn RX12 5 3 (some .boolean)) (x1 : Int32) (x4 : Int32) (u1 : Int32) (M : Mem) : BL p l e (rmL 3) s m args below meth c LY D cy ad 5 (QI LY D cy ad) 356 [(0, .ref (ad 0)), (1, .int x1), (4, .int x4)] [.int u1, .ref (ad 0)] M (fX12_goesOn_356 n0 x1 x4 u1 M) := by
  unfold fX12_goesOn_356
  refine b_callVV hO mdX12_joins mvX12_joins w1625 (ci := 12) rfl rfl (by decide) kLY_0 (As := [.int _]) (st := []) (ctX12_joins n0 hO.2.2.2.2.2.2.1 _ _) (Nat.le_of_ble_eq_true rfl) rfl rfl (Nat.le_of_ble_eq_true rfl) dX12_goesOn_356 (fun z356 => ?_)
  refine b_aload_n hO dX12_goesOn_359 0 rfl rfl ?_
  refine b_iload hO dX12_goesOn_360 2 rfl ?_
  refine b_if_eq hO dX12_goesOn_362 (tgt := 370) (by decide) ?_ ?_
  · refine b_bipush hO dX12_goesOn_370 ic_b_42 ?_
    refine b_sub [0, 1] rfl ?_
    exact tfX12_goesOn_372 n0 hO _ _ _
  · refine b_bipush hO dX12_goesOn_365 ic_b_41 ?_
    refine b_goto hO dX12_goesOn_367 (tgt := 372) (by decide) ?_
    refine b_sub [0, 1] rfl ?_
    exact tfX12_goesOn_372 n0 hO _ _ _
theorem tfX12_goesOn_327 (n0 : Nat) (hO : OKc p (rmL 3) s m args meth c LY D cy ad cX12_goesOn RX12 5 3 (some .boolean)) (x1 : Int32) (M : Mem) : BL p l e (rmL 3) s m args below meth c LY D cy ad 5 (QI LY D cy ad) 327 [(0, .ref (ad 0)), (1, .int x1)] [] M (fX12_goesOn_327 n0 x1 M) := by
  unfold fX12_goesOn_327
  refine b_aload_n hO dX12_goesOn_327 0 rfl rfl ?_
  refine b_get hO flX12_36 kLY_0 (v := .int (gI _ 8)) rfl dX12_goesOn_328 ?_
  refine b_if_le hO dX12_goesOn_331 (tgt := 336) (by decide) ?_ ?_
  · refine b_aload_n hO dX12_goesOn_336 0 rfl rfl ?_
    refine b_ldc2 hO w1535 dX12_goesOn_337 ?_
    refine b_callVI hO mdX12_isWord mvX12_isWord w1496 (ci := 12) rfl rfl (by decide) kLY_0 (As := [.long _]) (st := []) (ctX12_isWord n0 hO.2.2.2.2.2.2.1 _ _) (Nat.le_of_ble_eq_true rfl) rfl rfl (Nat.le_of_ble_eq_true rfl) dX12_goesOn_340 (fun z340 => ?_)
    refine b_istore hO dX12_goesOn_343 (by decide) (lv' := [(4, .int _), (0, .ref _), (1, .int _)]) rfl ?_
    refine b_aload_n hO dX12_goesOn_345 1 rfl rfl ?_
    refine b_iload hO dX12_goesOn_346 0 rfl ?_
    refine b_if_eq hO dX12_goesOn_348 (tgt := 355) (by decide) ?_ ?_
    · refine b_iconst hO dX12_goesOn_355 ic_i_1 ?_
      refine b_sub [1, 2, 0] rfl ?_
      exact tfX12_goesOn_356 n0 hO _ _ _ _
    · refine b_iconst hO dX12_goesOn_351 ic_i_2 ?_
      refine b_goto hO dX12_goesOn_352 (tgt := 356) (by decide) ?_
      refine b_sub [1, 2, 0] rfl ?_
      exact tfX12_goesOn_356 n0 hO _ _ _ _
  · refine b_iconst hO dX12_goesOn_334 ic_i_0 ?_
    exact b_zretc hO (Or.inl rfl) dX12_goesOn_335
theorem tfX12_goesOn_309 (n0 : Nat) (hO : OKc p (rmL 3) s m args meth c LY D cy ad cX12_goesOn RX12 5 3 (some .boolean)) (x1 : Int32) (M : Mem) : BL p l e (rmL 3) s m args below meth c LY D cy ad 5 (QI LY D cy ad) 309 [(0, .ref (ad 0)), (1, .int x1)] [] M (fX12_goesOn_309 n0 x1 M) := by
  unfold fX12_goesOn_309
  refine b_aload_n hO dX12_goesOn_309 0 rfl rfl ?_
  refine b_get hO flX12_125 kLY_0 (v := .ref (ad 22)) rfl dX12_goesOn_310 ?_
  refine b_iload_n hO dX12_goesOn_313 1 rfl rfl ?_
  refine b_iald hO kLY_22 (n := 20) rfl dX12_goesOn_314 ?_
  refine b_if_ne hO dX12_goesOn_315 (tgt := 327) (by decide) ?_ ?_
  · exact tfX12_goesOn_327 n0 hO _ _
  · refine b_aload_n hO dX12_goesOn_318 0 rfl rfl ?_
    refine b_iconst hO dX12_goesOn_319 ic_i_1 ?_
    refine b_aload_n hO dX12_goesOn_320 0 rfl rfl ?_
    refine b_get hO flX12_23 kLY_0 (v := .int (gI _ 4)) rfl dX12_goesOn_321 ?_
    refine b_callVV hO mdX12_blame mvX12_blame w1491 (ci := 12) rfl rfl (by decide) kLY_0 (As := [.int _, .int _]) (st := []) (ctX12_blame n0 hO.2.2.2.2.2.2.1 _ _ _) (Nat.le_of_ble_eq_true rfl) rfl rfl (Nat.le_of_ble_eq_true rfl) dX12_goesOn_324 (fun z324 => ?_)
    exact tfX12_goesOn_327 n0 hO _ _
theorem tfX12_goesOn_499 (n0 : Nat) (hO : OKc p (rmL 3) s m args meth c LY D cy ad cX12_goesOn RX12 5 3 (some .boolean)) (x1 : Int32) (u1 : Int32) (u2 : Int32) (M : Mem) : BL p l e (rmL 3) s m args below meth c LY D cy ad 5 (QI LY D cy ad) 499 [(0, .ref (ad 0)), (1, .int x1)] [.int u2, .int u1, .ref (ad 21)] M (fX12_goesOn_499 n0 x1 u1 u2 M) := by
  unfold fX12_goesOn_499
  refine b_iast hO kLY_21 (n := 20) rfl dX12_goesOn_499 ?_
  refine b_bnd (fun M499 => ?_)
  refine b_aload_n hO dX12_goesOn_500 0 rfl rfl ?_
  refine b_get hO flX12_125 kLY_0 (v := .ref (ad 22)) rfl dX12_goesOn_501 ?_
  refine b_iload_n hO dX12_goesOn_504 1 rfl rfl ?_
  refine b_iconst hO dX12_goesOn_505 ic_i_0 ?_
  refine b_iast hO kLY_22 (n := 20) rfl dX12_goesOn_506 ?_
  refine b_bnd (fun M506 => ?_)
  refine b_aload_n hO dX12_goesOn_507 0 rfl rfl ?_
  refine b_callVV hO mdX12_ahead mvX12_ahead w1473 (ci := 12) rfl rfl (by decide) kLY_0 (As := []) (st := []) (ctX12_ahead n0 hO.2.2.2.2.2.2.1 _) (Nat.le_of_ble_eq_true rfl) rfl rfl (Nat.le_of_ble_eq_true rfl) dX12_goesOn_508 (fun z508 => ?_)
  refine b_aload_n hO dX12_goesOn_511 0 rfl rfl ?_
  refine b_iconst hO dX12_goesOn_512 ic_i_0 ?_
  refine b_putZc hO flX12_150 kLY_0 rfl rfl rfl (id := 45) rfl (Or.inl rfl) dX12_goesOn_513 ?_
  refine b_bnd (fun M513 => ?_)
  refine b_iconst hO dX12_goesOn_516 ic_i_1 ?_
  exact b_zretc hO (Or.inr rfl) dX12_goesOn_517
theorem tfX12_goesOn_470 (n0 : Nat) (hO : OKc p (rmL 3) s m args meth c LY D cy ad cX12_goesOn RX12 5 3 (some .boolean)) (x1 : Int32) (x2 : Int32) (M : Mem) : BL p l e (rmL 3) s m args below meth c LY D cy ad 5 (QI LY D cy ad) 470 [(0, .ref (ad 0)), (1, .int x1), (2, .int x2)] [] M (fX12_goesOn_470 n0 x1 x2 M) := by
  unfold fX12_goesOn_470
  refine b_aload_n hO dX12_goesOn_470 0 rfl rfl ?_
  refine b_get hO flX12_36 kLY_0 (v := .int (gI _ 8)) rfl dX12_goesOn_471 ?_
  refine b_if_le hO dX12_goesOn_474 (tgt := 479) (by decide) ?_ ?_
  · refine b_aload_n hO dX12_goesOn_479 0 rfl rfl ?_
    refine b_iconst hO dX12_goesOn_480 ic_i_1 ?_
    refine b_callVV hO mdX12_joins mvX12_joins w1625 (ci := 12) rfl rfl (by decide) kLY_0 (As := [.int _]) (st := []) (ctX12_joins n0 hO.2.2.2.2.2.2.1 _ _) (Nat.le_of_ble_eq_true rfl) rfl rfl (Nat.le_of_ble_eq_true rfl) dX12_goesOn_481 (fun z481 => ?_)
    refine b_aload_n hO dX12_goesOn_484 0 rfl rfl ?_
    refine b_get hO flX12_122 kLY_0 (v := .ref (ad 21)) rfl dX12_goesOn_485 ?_
    refine b_iload_n hO dX12_goesOn_488 1 rfl rfl ?_
    refine b_iload_n hO dX12_goesOn_489 2 rfl rfl ?_
    refine b_iconst hO dX12_goesOn_490 ic_i_3 ?_
    refine b_icmp_ne hO dX12_goesOn_491 (tgt := 498) (by decide) ?_ ?_
    · refine b_iconst hO dX12_goesOn_498 ic_i_3 ?_
      refine b_sub [0, 1] rfl ?_
      exact tfX12_goesOn_499 n0 hO _ _ _ _
    · refine b_iconst hO dX12_goesOn_494 ic_i_4 ?_
      refine b_goto hO dX12_goesOn_495 (tgt := 499) (by decide) ?_
      refine b_sub [0, 1] rfl ?_
      exact tfX12_goesOn_499 n0 hO _ _ _ _
  · refine b_iconst hO dX12_goesOn_477 ic_i_0 ?_
    exact b_zretc hO (Or.inl rfl) dX12_goesOn_478
theorem tfX12_goesOn_452 (n0 : Nat) (hO : OKc p (rmL 3) s m args meth c LY D cy ad cX12_goesOn RX12 5 3 (some .boolean)) (x1 : Int32) (x2 : Int32) (M : Mem) : BL p l e (rmL 3) s m args below meth c LY D cy ad 5 (QI LY D cy ad) 452 [(0, .ref (ad 0)), (1, .int x1), (2, .int x2)] [] M (fX12_goesOn_452 n0 x1 x2 M) := by
  unfold fX12_goesOn_452
  refine b_aload_n hO dX12_goesOn_452 0 rfl rfl ?_
  refine b_bipush hO dX12_goesOn_453 ic_b_44 ?_
  refine b_callVI hO mdX12_isSign mvX12_isSign w1609 (ci := 12) rfl rfl (by decide) kLY_0 (As := [.int _]) (st := []) (ctX12_isSign n0 hO.2.2.2.2.2.2.1 _ _) (Nat.le_of_ble_eq_true rfl) rfl rfl (Nat.le_of_ble_eq_true rfl) dX12_goesOn_455 (fun z455 => ?_)
  refine b_if_ne hO dX12_goesOn_458 (tgt := 470) (by decide) ?_ ?_
  · exact tfX12_goesOn_470 n0 hO _ _ _
  · refine b_aload_n hO dX12_goesOn_461 0 rfl rfl ?_
    refine b_iconst hO dX12_goesOn_462 ic_i_1 ?_
    refine b_aload_n hO dX12_goesOn_463 0 rfl rfl ?_
    refine b_get hO flX12_23 kLY_0 (v := .int (gI _ 4)) rfl dX12_goesOn_464 ?_
    refine b_callVV hO mdX12_blame mvX12_blame w1491 (ci := 12) rfl rfl (by decide) kLY_0 (As := [.int _, .int _]) (st := []) (ctX12_blame n0 hO.2.2.2.2.2.2.1 _ _ _) (Nat.le_of_ble_eq_true rfl) rfl rfl (Nat.le_of_ble_eq_true rfl) dX12_goesOn_467 (fun z467 => ?_)
    exact tfX12_goesOn_470 n0 hO _ _ _
theorem tfX12_goesOn_613 (n0 : Nat) (hO : OKc p (rmL 3) s m args meth c LY D cy ad cX12_goesOn RX12 5 3 (some .boolean)) (M : Mem) : BL p l e (rmL 3) s m args below meth c LY D cy ad 5 (QI LY D cy ad) 613 [(0, .ref (ad 0))] [] M (fX12_goesOn_613 n0 M) := by
  unfold fX12_goesOn_613
  refine b_aload_n hO dX12_goesOn_613 0 rfl rfl ?_
  refine b_callVV hO mdX12_ahead mvX12_ahead w1473 (ci := 12) rfl rfl (by decide) kLY_0 (As := []) (st := []) (ctX12_ahead n0 hO.2.2.2.2.2.2.1 _) (Nat.le_of_ble_eq_true rfl) rfl rfl (Nat.le_of_ble_eq_true rfl) dX12_goesOn_614 (fun z614 => ?_)
  refine b_iconst hO dX12_goesOn_617 ic_i_1 ?_
  exact b_zretc hO (Or.inr rfl) dX12_goesOn_618
theorem tfX12_goesOn_596 (n0 : Nat) (hO : OKc p (rmL 3) s m args meth c LY D cy ad cX12_goesOn RX12 5 3 (some .boolean)) (x2 : Int32) (M : Mem) : BL p l e (rmL 3) s m args below meth c LY D cy ad 5 (QI LY D cy ad) 596 [(0, .ref (ad 0)), (2, .int x2)] [] M (fX12_goesOn_596 n0 x2 M) := by
  unfold fX12_goesOn_596
  refine b_iload_n hO dX12_goesOn_596 1 rfl rfl ?_
  refine b_iconst hO dX12_goesOn_597 ic_i_5 ?_
  refine b_icmp_ne hO dX12_goesOn_598 (tgt := 613) (by decide) ?_ ?_
  · refine b_sub [0] rfl ?_
    exact tfX12_goesOn_613 n0 hO _
  · refine b_aload_n hO dX12_goesOn_601 0 rfl rfl ?_
    refine b_get hO flX12_125 kLY_0 (v := .ref (ad 22)) rfl dX12_goesOn_602 ?_
    refine b_aload_n hO dX12_goesOn_605 0 rfl rfl ?_
    refine b_get hO flX12_138 kLY_0 (v := .int (gI _ 41)) rfl dX12_goesOn_606 ?_
    refine b_iconst hO dX12_goesOn_609 ic_i_1 ?_
    refine b_isub hO dX12_goesOn_610 ?_
    refine b_iconst hO dX12_goesOn_611 ic_i_2 ?_
    refine b_iast hO kLY_22 (n := 20) rfl dX12_goesOn_612 ?_
    refine b_sub [0] rfl ?_
    exact tfX12_goesOn_613 n0 hO _
theorem tfX12_goesOn_546 (n0 : Nat) (hO : OKc p (rmL 3) s m args meth c LY D cy ad cX12_goesOn RX12 5 3 (some .boolean)) (x1 : Int32) (x2 : Int32) (M : Mem) : BL p l e (rmL 3) s m args below meth c LY D cy ad 5 (QI LY D cy ad) 546 [(0, .ref (ad 0)), (1, .int x1), (2, .int x2)] [] M (fX12_goesOn_546 n0 x1 x2 M) := by
  unfold fX12_goesOn_546
  refine b_aload_n hO dX12_goesOn_546 0 rfl rfl ?_
  refine b_get hO flX12_36 kLY_0 (v := .int (gI _ 8)) rfl dX12_goesOn_547 ?_
  refine b_if_le hO dX12_goesOn_550 (tgt := 555) (by decide) ?_ ?_
  · refine b_aload_n hO dX12_goesOn_555 0 rfl rfl ?_
    refine b_iconst hO dX12_goesOn_556 ic_i_1 ?_
    refine b_callVV hO mdX12_joins mvX12_joins w1625 (ci := 12) rfl rfl (by decide) kLY_0 (As := [.int _]) (st := []) (ctX12_joins n0 hO.2.2.2.2.2.2.1 _ _) (Nat.le_of_ble_eq_true rfl) rfl rfl (Nat.le_of_ble_eq_true rfl) dX12_goesOn_557 (fun z557 => ?_)
    refine b_aload_n hO dX12_goesOn_560 0 rfl rfl ?_
    refine b_dup hO dX12_goesOn_561 rfl ?_
    refine b_get hO flX12_138 kLY_0 (v := .int (gI _ 41)) rfl dX12_goesOn_562 ?_
    refine b_iconst hO dX12_goesOn_565 ic_i_1 ?_
    refine b_isub hO dX12_goesOn_566 ?_
    refine b_putI hO flX12_138 kLY_0 rfl rfl rfl (id := 41) rfl dX12_goesOn_567 ?_
    refine b_bnd (fun M567 => ?_)
    refine b_aload_n hO dX12_goesOn_570 0 rfl rfl ?_
    refine b_dup hO dX12_goesOn_571 rfl ?_
    refine b_get hO flX12_141 kLY_0 (v := .int (gI _ 42)) rfl dX12_goesOn_572 ?_
    refine b_iconst hO dX12_goesOn_575 ic_i_1 ?_
    refine b_isub hO dX12_goesOn_576 ?_
    refine b_putI hO flX12_141 kLY_0 rfl rfl rfl (id := 42) rfl dX12_goesOn_577 ?_
    refine b_bnd (fun M577 => ?_)
    refine b_iload_n hO dX12_goesOn_580 2 rfl rfl ?_
    refine b_iconst hO dX12_goesOn_581 ic_i_4 ?_
    refine b_icmp_ne hO dX12_goesOn_582 (tgt := 596) (by decide) ?_ ?_
    · refine b_sub [0, 2] rfl ?_
      exact tfX12_goesOn_596 n0 hO _ _
    · refine b_aload_n hO dX12_goesOn_585 0 rfl rfl ?_
      refine b_aload_n hO dX12_goesOn_586 0 rfl rfl ?_
      refine b_get hO flX12_132 kLY_0 (v := .ref (ad 24)) rfl dX12_goesOn_587 ?_
      refine b_iload_n hO dX12_goesOn_590 1 rfl rfl ?_
      refine b_iald hO kLY_24 (n := 20) rfl dX12_goesOn_591 ?_
      refine b_iconst hO dX12_goesOn_592 ic_i_0 ?_
      refine b_callVV hO mdX12_add mvX12_add w1617 (ci := 12) rfl rfl (by decide) kLY_0 (As := [.int _, .int _]) (st := []) (ctX12_add n0 hO.2.2.2.2.2.2.1 _ _ _) (Nat.le_of_ble_eq_true rfl) rfl rfl (Nat.le_of_ble_eq_true rfl) dX12_goesOn_593 (fun z593 => ?_)
      refine b_sub [0, 2] rfl ?_
      exact tfX12_goesOn_596 n0 hO _ _
  · refine b_iconst hO dX12_goesOn_553 ic_i_0 ?_
    exact b_zretc hO (Or.inl rfl) dX12_goesOn_554
theorem tfX12_goesOn_531 (n0 : Nat) (hO : OKc p (rmL 3) s m args meth c LY D cy ad cX12_goesOn RX12 5 3 (some .boolean)) (x1 : Int32) (x2 : Int32) (u1 : Int32) (M : Mem) : BL p l e (rmL 3) s m args below meth c LY D cy ad 5 (QI LY D cy ad) 531 [(0, .ref (ad 0)), (1, .int x1), (2, .int x2)] [.int u1, .ref (ad 0)] M (fX12_goesOn_531 n0 x1 x2 u1 M) := by
  unfold fX12_goesOn_531
  refine b_callVI hO mdX12_isSign mvX12_isSign w1609 (ci := 12) rfl rfl (by decide) kLY_0 (As := [.int _]) (st := []) (ctX12_isSign n0 hO.2.2.2.2.2.2.1 _ _) (Nat.le_of_ble_eq_true rfl) rfl rfl (Nat.le_of_ble_eq_true rfl) dX12_goesOn_531 (fun z531 => ?_)
  refine b_if_ne hO dX12_goesOn_534 (tgt := 546) (by decide) ?_ ?_
  · exact tfX12_goesOn_546 n0 hO _ _ _
  · refine b_aload_n hO dX12_goesOn_537 0 rfl rfl ?_
    refine b_iconst hO dX12_goesOn_538 ic_i_1 ?_
    refine b_aload_n hO dX12_goesOn_539 0 rfl rfl ?_
    refine b_get hO flX12_23 kLY_0 (v := .int (gI _ 4)) rfl dX12_goesOn_540 ?_
    refine b_callVV hO mdX12_blame mvX12_blame w1491 (ci := 12) rfl rfl (by decide) kLY_0 (As := [.int _, .int _]) (st := []) (ctX12_blame n0 hO.2.2.2.2.2.2.1 _ _ _) (Nat.le_of_ble_eq_true rfl) rfl rfl (Nat.le_of_ble_eq_true rfl) dX12_goesOn_543 (fun z543 => ?_)
    exact tfX12_goesOn_546 n0 hO _ _ _
theorem tfX12_goesOn_422 (n0 : Nat) (hO : OKc p (rmL 3) s m args meth c LY D cy ad cX12_goesOn RX12 5 3 (some .boolean)) (x1 : Int32) (x2 : Int32) (M : Mem) : BL p l e (rmL 3) s m args below meth c LY D cy ad 5 (QI LY D cy ad) 422 [(0, .ref (ad 0)), (1, .int x1), (2, .int x2)] [] M (fX12_goesOn_422 n0 x1 x2 M) := by
  unfold fX12_goesOn_422
  refine b_iload_n hO dX12_goesOn_422 2 rfl rfl ?_
  refine b_iconst hO dX12_goesOn_423 ic_i_2 ?_
  refine b_icmp_ge hO dX12_goesOn_424 (tgt := 441) (by decide) ?_ ?_
  · refine b_iload_n hO dX12_goesOn_441 2 rfl rfl ?_
    refine b_iconst hO dX12_goesOn_442 ic_i_3 ?_
    refine b_icmp_eq hO dX12_goesOn_443 (tgt := 452) (by decide) ?_ ?_
    · exact tfX12_goesOn_452 n0 hO _ _ _
    · refine b_iload_n hO dX12_goesOn_446 2 rfl rfl ?_
      refine b_bipush hO dX12_goesOn_447 ic_b_6 ?_
      refine b_icmp_ne hO dX12_goesOn_449 (tgt := 518) (by decide) ?_ ?_
      · refine b_aload_n hO dX12_goesOn_518 0 rfl rfl ?_
        refine b_iload_n hO dX12_goesOn_519 2 rfl rfl ?_
        refine b_iconst hO dX12_goesOn_520 ic_i_5 ?_
        refine b_icmp_ne hO dX12_goesOn_521 (tgt := 529) (by decide) ?_ ?_
        · refine b_bipush hO dX12_goesOn_529 ic_b_41 ?_
          exact tfX12_goesOn_531 n0 hO _ _ _ _
        · refine b_bipush hO dX12_goesOn_524 ic_b_93 ?_
          refine b_goto hO dX12_goesOn_526 (tgt := 531) (by decide) ?_
          exact tfX12_goesOn_531 n0 hO _ _ _ _
      · exact tfX12_goesOn_452 n0 hO _ _ _
  · refine b_aload_n hO dX12_goesOn_427 0 rfl rfl ?_
    refine b_get hO flX12_36 kLY_0 (v := .int (gI _ 8)) rfl dX12_goesOn_428 ?_
    refine b_if_ne hO dX12_goesOn_431 (tgt := 439) (by decide) ?_ ?_
    · refine b_iconst hO dX12_goesOn_439 ic_i_0 ?_
      exact b_zretc hO (Or.inl rfl) dX12_goesOn_440
    · refine b_aload_n hO dX12_goesOn_434 0 rfl rfl ?_
      refine b_iconst hO dX12_goesOn_435 ic_i_1 ?_
      refine b_callVV hO mdX12_joins mvX12_joins w1625 (ci := 12) rfl rfl (by decide) kLY_0 (As := [.int _]) (st := []) (ctX12_joins n0 hO.2.2.2.2.2.2.1 _ _) (Nat.le_of_ble_eq_true rfl) rfl rfl (Nat.le_of_ble_eq_true rfl) dX12_goesOn_436 (fun z436 => ?_)
      refine b_iconst hO dX12_goesOn_439 ic_i_0 ?_
      exact b_zretc hO (Or.inl rfl) dX12_goesOn_440
theorem tfX12_goesOn_400 (n0 : Nat) (hO : OKc p (rmL 3) s m args meth c LY D cy ad cX12_goesOn RX12 5 3 (some .boolean)) (x1 : Int32) (x2 : Int32) (x3 : Int32) (M : Mem) : BL p l e (rmL 3) s m args below meth c LY D cy ad 5 (QI LY D cy ad) 400 [(0, .ref (ad 0)), (1, .int x1), (2, .int x2), (3, .int x3)] [] M (fX12_goesOn_400 n0 x1 x2 x3 M) := by
  unfold fX12_goesOn_400
  refine b_iload_n hO dX12_goesOn_400 3 rfl rfl ?_
  refine b_if_eq hO dX12_goesOn_401 (tgt := 422) (by decide) ?_ ?_
  · refine b_sub [0, 1, 2] rfl ?_
    exact tfX12_goesOn_422 n0 hO _ _ _
  · refine b_aload_n hO dX12_goesOn_404 0 rfl rfl ?_
    refine b_get hO flX12_125 kLY_0 (v := .ref (ad 22)) rfl dX12_goesOn_405 ?_
    refine b_iload_n hO dX12_goesOn_408 1 rfl rfl ?_
    refine b_iald hO kLY_22 (n := 20) rfl dX12_goesOn_409 ?_
    refine b_if_ne hO dX12_goesOn_410 (tgt := 422) (by decide) ?_ ?_
    · refine b_sub [0, 1, 2] rfl ?_
      exact tfX12_goesOn_422 n0 hO _ _ _
    · refine b_aload_n hO dX12_goesOn_413 0 rfl rfl ?_
      refine b_iconst hO dX12_goesOn_414 ic_i_1 ?_
      refine b_aload_n hO dX12_goesOn_415 0 rfl rfl ?_
      refine b_get hO flX12_23 kLY_0 (v := .int (gI _ 4)) rfl dX12_goesOn_416 ?_
      refine b_callVV hO mdX12_blame mvX12_blame w1491 (ci := 12) rfl rfl (by decide) kLY_0 (As := [.int _, .int _]) (st := []) (ctX12_blame n0 hO.2.2.2.2.2.2.1 _ _ _) (Nat.le_of_ble_eq_true rfl) rfl rfl (Nat.le_of_ble_eq_true rfl) dX12_goesOn_419 (fun z419 => ?_)
      refine b_sub [0, 1, 2] rfl ?_
      exact tfX12_goesOn_422 n0 hO _ _ _
theorem tfX12_goesOn_285 (n0 : Nat) (hO : OKc p (rmL 3) s m args meth c LY D cy ad cX12_goesOn RX12 5 3 (some .boolean)) (x1 : Int32) (x2 : Int32) (x3 : Int32) (M : Mem) : BL p l e (rmL 3) s m args below meth c LY D cy ad 5 (QI LY D cy ad) 285 [(0, .ref (ad 0)), (1, .int x1), (2, .int x2), (3, .int x3)] [] M (fX12_goesOn_285 n0 x1 x2 x3 M) := by
  unfold fX12_goesOn_285
  refine b_iload_n hO dX12_goesOn_285 3 rfl rfl ?_
  refine b_if_eq hO dX12_goesOn_286 (tgt := 400) (by decide) ?_ ?_
  · exact tfX12_goesOn_400 n0 hO _ _ _ _
  · refine b_aload_n hO dX12_goesOn_289 0 rfl rfl ?_
    refine b_ldc2 hO w1535 dX12_goesOn_290 ?_
    refine b_callVI hO mdX12_isWord mvX12_isWord w1496 (ci := 12) rfl rfl (by decide) kLY_0 (As := [.long _]) (st := []) (ctX12_isWord n0 hO.2.2.2.2.2.2.1 _ _) (Nat.le_of_ble_eq_true rfl) rfl rfl (Nat.le_of_ble_eq_true rfl) dX12_goesOn_293 (fun z293 => ?_)
    refine b_if_ne hO dX12_goesOn_296 (tgt := 309) (by decide) ?_ ?_
    · refine b_sub [0, 1] rfl ?_
      exact tfX12_goesOn_309 n0 hO _ _
    · refine b_aload_n hO dX12_goesOn_299 0 rfl rfl ?_
      refine b_ldc2 hO w1534 dX12_goesOn_300 ?_
      refine b_callVI hO mdX12_isWord mvX12_isWord w1496 (ci := 12) rfl rfl (by decide) kLY_0 (As := [.long _]) (st := []) (ctX12_isWord n0 hO.2.2.2.2.2.2.1 _ _) (Nat.le_of_ble_eq_true rfl) rfl rfl (Nat.le_of_ble_eq_true rfl) dX12_goesOn_303 (fun z303 => ?_)
      refine b_if_eq hO dX12_goesOn_306 (tgt := 400) (by decide) ?_ ?_
      · exact tfX12_goesOn_400 n0 hO _ _ _ _
      · refine b_sub [0, 1] rfl ?_
        exact tfX12_goesOn_309 n0 hO _ _
theorem tfX12_goesOn_188 (n0 : Nat) (hO : OKc p (rmL 3) s m args meth c LY D cy ad cX12_goesOn RX12 5 3 (some .boolean)) (x1 : Int32) (x2 : Int32) (x3 : Int32) (M : Mem) : BL p l e (rmL 3) s m args below meth c LY D cy ad 5 (QI LY D cy ad) 188 [(0, .ref (ad 0)), (1, .int x1), (2, .int x2), (3, .int x3)] [] M (fX12_goesOn_188 n0 x1 x2 x3 M) := by
  unfold fX12_goesOn_188
  refine b_iload_n hO dX12_goesOn_188 3 rfl rfl ?_
  refine b_if_eq hO dX12_goesOn_189 (tgt := 285) (by decide) ?_ ?_
  · exact tfX12_goesOn_285 n0 hO _ _ _ _
  · refine b_aload_n hO dX12_goesOn_192 0 rfl rfl ?_
    refine b_get hO flX12_125 kLY_0 (v := .ref (ad 22)) rfl dX12_goesOn_193 ?_
    refine b_iload_n hO dX12_goesOn_196 1 rfl rfl ?_
    refine b_iald hO kLY_22 (n := 20) rfl dX12_goesOn_197 ?_
    refine b_if_ne hO dX12_goesOn_198 (tgt := 285) (by decide) ?_ ?_
    · exact tfX12_goesOn_285 n0 hO _ _ _ _
    · refine b_aload_n hO dX12_goesOn_201 0 rfl rfl ?_
      refine b_bipush hO dX12_goesOn_202 ic_b_60 ?_
      refine b_callVI hO mdX12_isSign mvX12_isSign w1609 (ci := 12) rfl rfl (by decide) kLY_0 (As := [.int _]) (st := []) (ctX12_isSign n0 hO.2.2.2.2.2.2.1 _ _) (Nat.le_of_ble_eq_true rfl) rfl rfl (Nat.le_of_ble_eq_true rfl) dX12_goesOn_204 (fun z204 => ?_)
      refine b_if_ne hO dX12_goesOn_207 (tgt := 228) (by decide) ?_ ?_
      · refine b_sub [0, 1] rfl ?_
        exact tfX12_goesOn_228 n0 hO _ _
      · refine b_aload_n hO dX12_goesOn_210 0 rfl rfl ?_
        refine b_bipush hO dX12_goesOn_211 ic_b_62 ?_
        refine b_callVI hO mdX12_isSign mvX12_isSign w1609 (ci := 12) rfl rfl (by decide) kLY_0 (As := [.int _]) (st := []) (ctX12_isSign n0 hO.2.2.2.2.2.2.1 _ _) (Nat.le_of_ble_eq_true rfl) rfl rfl (Nat.le_of_ble_eq_true rfl) dX12_goesOn_213 (fun z213 => ?_)
        refine b_if_ne hO dX12_goesOn_216 (tgt := 228) (by decide) ?_ ?_
        · refine b_sub [0, 1] rfl ?_
          exact tfX12_goesOn_228 n0 hO _ _
        · refine b_aload_n hO dX12_goesOn_219 0 rfl rfl ?_
          refine b_bipush hO dX12_goesOn_220 ic_b_61 ?_
          refine b_callVI hO mdX12_isSign mvX12_isSign w1609 (ci := 12) rfl rfl (by decide) kLY_0 (As := [.int _]) (st := []) (ctX12_isSign n0 hO.2.2.2.2.2.2.1 _ _) (Nat.le_of_ble_eq_true rfl) rfl rfl (Nat.le_of_ble_eq_true rfl) dX12_goesOn_222 (fun z222 => ?_)
          refine b_if_eq hO dX12_goesOn_225 (tgt := 285) (by decide) ?_ ?_
          · exact tfX12_goesOn_285 n0 hO _ _ _ _
          · refine b_sub [0, 1] rfl ?_
            exact tfX12_goesOn_228 n0 hO _ _
theorem tfX12_goesOn (n0 : Nat) (hO : OKc p (rmL 3) s m args meth c LY D cy ad cX12_goesOn RX12 5 3 (some .boolean)) (M : Mem) : BL p l e (rmL 3) s m args below meth c LY D cy ad 5 (QI LY D cy ad) 0 [(0, .ref (ad 0))] [] M (fX12_goesOn n0 M) := by
  unfold fX12_goesOn
  refine b_aload_n hO dX12_goesOn_0 0 rfl rfl ?_
  refine b_callVV hO mdX12_lex mvX12_lex w1487 (ci := 12) rfl rfl (by decide) kLY_0 (As := []) (st := []) (ctX12_lex n0 hO.2.2.2.2.2.2.1 _) (Nat.le_of_ble_eq_true rfl) rfl rfl (Nat.le_of_ble_eq_true rfl) dX12_goesOn_1 (fun z1 => ?_)
  refine b_aload_n hO dX12_goesOn_4 0 rfl rfl ?_
  refine b_get hO flX12_36 kLY_0 (v := .int (gI _ 8)) rfl dX12_goesOn_5 ?_
  refine b_if_le hO dX12_goesOn_8 (tgt := 13) (by decide) ?_ ?_
  · refine b_aload_n hO dX12_goesOn_13 0 rfl rfl ?_
    refine b_get hO flX12_138 kLY_0 (v := .int (gI _ 41)) rfl dX12_goesOn_14 ?_
    refine b_iconst hO dX12_goesOn_17 ic_i_1 ?_
    refine b_isub hO dX12_goesOn_18 ?_
    refine b_topI (fun x1_19 => ?_)
    refine b_istore_n hO dX12_goesOn_19 rfl (by decide) (lv' := [(1, .int _), (0, .ref _)]) rfl ?_
    refine b_aload_n hO dX12_goesOn_20 1 rfl rfl ?_
    refine b_get hO flX12_122 kLY_0 (v := .ref (ad 21)) rfl dX12_goesOn_21 ?_
    refine b_iload_n hO dX12_goesOn_24 0 rfl rfl ?_
    refine b_iald hO kLY_21 (n := 20) rfl dX12_goesOn_25 ?_
    refine b_topI (fun x2_26 => ?_)
    refine b_istore_n hO dX12_goesOn_26 rfl (by decide) (lv' := [(2, .int _), (1, .int _), (0, .ref _)]) rfl ?_
    refine b_iload_n hO dX12_goesOn_27 0 rfl rfl ?_
    refine b_callSI hO mdX12_isTest w1603 w1602 (As := [.int _]) (st := []) (ctX12_isTest n0 hO.2.2.2.2.2.2.1 _ _) (Nat.le_of_ble_eq_true rfl) rfl rfl (Nat.le_of_ble_eq_true rfl) dX12_goesOn_28 (fun z28 => ?_)
    refine b_istore_n hO dX12_goesOn_31 rfl (by decide) (lv' := [(3, .int _), (2, .int _), (1, .int _), (0, .ref _)]) rfl ?_
    refine b_aload_n hO dX12_goesOn_32 3 rfl rfl ?_
    refine b_get hO flX12_125 kLY_0 (v := .ref (ad 22)) rfl dX12_goesOn_33 ?_
    refine b_iload_n hO dX12_goesOn_36 2 rfl rfl ?_
    refine b_iald hO kLY_22 (n := 20) rfl dX12_goesOn_37 ?_
    refine b_iconst hO dX12_goesOn_38 ic_i_2 ?_
    refine b_icmp_ge hO dX12_goesOn_39 (tgt := 188) (by decide) ?_ ?_
    · refine b_sub [3, 2, 1, 0] rfl ?_
      exact tfX12_goesOn_188 n0 hO _ _ _ _
    · refine b_aload_n hO dX12_goesOn_42 3 rfl rfl ?_
      refine b_bipush hO dX12_goesOn_43 ic_b_43 ?_
      refine b_callVI hO mdX12_isSign mvX12_isSign w1609 (ci := 12) rfl rfl (by decide) kLY_0 (As := [.int _]) (st := []) (ctX12_isSign n0 hO.2.2.2.2.2.2.1 _ _) (Nat.le_of_ble_eq_true rfl) rfl rfl (Nat.le_of_ble_eq_true rfl) dX12_goesOn_45 (fun z45 => ?_)
      refine b_if_ne hO dX12_goesOn_48 (tgt := 87) (by decide) ?_ ?_
      · refine b_sub [3] rfl ?_
        exact tfX12_goesOn_87 n0 hO _
      · refine b_aload_n hO dX12_goesOn_51 3 rfl rfl ?_
        refine b_bipush hO dX12_goesOn_52 ic_b_45 ?_
        refine b_callVI hO mdX12_isSign mvX12_isSign w1609 (ci := 12) rfl rfl (by decide) kLY_0 (As := [.int _]) (st := []) (ctX12_isSign n0 hO.2.2.2.2.2.2.1 _ _) (Nat.le_of_ble_eq_true rfl) rfl rfl (Nat.le_of_ble_eq_true rfl) dX12_goesOn_54 (fun z54 => ?_)
        refine b_if_ne hO dX12_goesOn_57 (tgt := 87) (by decide) ?_ ?_
        · refine b_sub [3] rfl ?_
          exact tfX12_goesOn_87 n0 hO _
        · refine b_aload_n hO dX12_goesOn_60 3 rfl rfl ?_
          refine b_bipush hO dX12_goesOn_61 ic_b_42 ?_
          refine b_callVI hO mdX12_isSign mvX12_isSign w1609 (ci := 12) rfl rfl (by decide) kLY_0 (As := [.int _]) (st := []) (ctX12_isSign n0 hO.2.2.2.2.2.2.1 _ _) (Nat.le_of_ble_eq_true rfl) rfl rfl (Nat.le_of_ble_eq_true rfl) dX12_goesOn_63 (fun z63 => ?_)
          refine b_if_ne hO dX12_goesOn_66 (tgt := 87) (by decide) ?_ ?_
          · refine b_sub [3] rfl ?_
            exact tfX12_goesOn_87 n0 hO _
          · refine b_aload_n hO dX12_goesOn_69 3 rfl rfl ?_
            refine b_bipush hO dX12_goesOn_70 ic_b_47 ?_
            refine b_callVI hO mdX12_isSign mvX12_isSign w1609 (ci := 12) rfl rfl (by decide) kLY_0 (As := [.int _]) (st := []) (ctX12_isSign n0 hO.2.2.2.2.2.2.1 _ _) (Nat.le_of_ble_eq_true rfl) rfl rfl (Nat.le_of_ble_eq_true rfl) dX12_goesOn_72 (fun z72 => ?_)
            refine b_if_ne hO dX12_goesOn_75 (tgt := 87) (by decide) ?_ ?_
            · refine b_sub [3] rfl ?_
              exact tfX12_goesOn_87 n0 hO _
            · refine b_aload_n hO dX12_goesOn_78 3 rfl rfl ?_
              refine b_bipush hO dX12_goesOn_79 ic_b_37 ?_
              refine b_callVI hO mdX12_isSign mvX12_isSign w1609 (ci := 12) rfl rfl (by decide) kLY_0 (As := [.int _]) (st := []) (ctX12_isSign n0 hO.2.2.2.2.2.2.1 _ _) (Nat.le_of_ble_eq_true rfl) rfl rfl (Nat.le_of_ble_eq_true rfl) dX12_goesOn_81 (fun z81 => ?_)
              refine b_if_eq hO dX12_goesOn_84 (tgt := 188) (by decide) ?_ ?_
              · refine b_sub [3, 2, 1, 0] rfl ?_
                exact tfX12_goesOn_188 n0 hO _ _ _ _
              · refine b_sub [3] rfl ?_
                exact tfX12_goesOn_87 n0 hO _
  · refine b_iconst hO dX12_goesOn_11 ic_i_0 ?_
    exact b_zretc hO (Or.inl rfl) dX12_goesOn_12
theorem ctX12_goesOn (n0 : Nat) (hI : Inj LY ad) (M : Mem) : CT l LY D cy ad yX12_goesOn cX12_goesOn 5 (some .boolean) 3 (QI LY D cy ad) [.ref (ad 0)] M (fX12_goesOn n0 M) :=
  CT.mk LYok hI (by decide) (Nat.le_of_ble_eq_true rfl) (fun hO => tfX12_goesOn n0 hO M)
/-! X12_reads -/
def fX12_reads_86 (n0 : Nat) (k43 : Int32 → Mem → Option (Mem)) (u0 : Int32) (M : Mem) : Option (Mem) :=
  k43 u0 M
def fX12_reads_85 (n0 : Nat) (k43 : Int32 → Mem → Option (Mem)) (M : Mem) : Option (Mem) :=
  fX12_reads_86 n0 k43 (0 : Int32) M
def fX12_reads_70 (n0 : Nat) (k43 : Int32 → Mem → Option (Mem)) (x2 : Int32) (M : Mem) : Option (Mem) :=
  if x2 = 0 then
    fX12_reads_85 n0 k43 M
  else
    if (gI M 8) = 0 then
      fX12_reads_86 n0 k43 (1 : Int32) M
    else
      fX12_reads_85 n0 k43 M
def bX12_reads_43 (n0 : Nat) (k43 : Int32 → Mem → Option (Mem)) (x2 : Int32) (M : Mem) : Option (Mem) :=
  if x2 = 0 then
    some M
  else
    if (gI M 45) = 0 then
      (fX12_operand n0 M).bind fun z56 =>
      if z56.1 = 0 ∨ z56.1 = 1 then
      fX12_reads_70 n0 k43 x2 (sI z56.2 45 z56.1)
      else none
    else
      (fX12_goesOn n0 M).bind fun z66 =>
      fX12_reads_70 n0 k43 z66.1 z66.2
def fX12_reads_43 (n0 : Nat) : Int32 → Mem → Option (Mem) := loopN (bX12_reads_43 n0) (fun _ _ => none) n0
def fX12_reads_38 (n0 : Nat) (u1 : Int32) (M : Mem) : Option (Mem) :=
  (fX12_pushes n0 u1 M).bind fun z38 =>
  fX12_reads_43 n0 (1 : Int32) z38
def fX12_reads (n0 : Nat) (x1 : Int32) (M : Mem) : Option (Mem) :=
  if (gI M 8) ≤ 0 then
    bnd (sI M 41 (0 : Int32)) fun M10 =>
    bnd (sI M10 42 (0 : Int32)) fun M15 =>
    bnd (sI M15 44 (0 : Int32)) fun M20 =>
    bnd (sI M20 45 (0 : Int32)) fun M25 =>
    if x1 = 0 then
      fX12_reads_38 n0 (0 : Int32) M25
    else
      fX12_reads_38 n0 (1 : Int32) M25
  else
    some M
theorem tfX12_reads_86 (n0 : Nat) (hO : OKc p (rmL 5) s m args meth c LY D cy ad cX12_reads RX12 3 5 none) (k43 : Int32 → Mem → Option (Mem)) (hk43 : ∀ (x2 : Int32) (M : Mem), BL p l e (rmL 5) s m args below meth c LY D cy ad 3 (QV LY D cy ad) 43 [(0, .ref (ad 0)), (2, .int x2)] [] M (k43 x2 M)) (u0 : Int32) (M : Mem) : BL p l e (rmL 5) s m args below meth c LY D cy ad 3 (QV LY D cy ad) 86 [(0, .ref (ad 0))] [.int u0] M (fX12_reads_86 n0 k43 u0 M) := by
  unfold fX12_reads_86
  refine b_istore_n hO dX12_reads_86 rfl (by decide) (lv' := [(2, .int _), (0, .ref _)]) rfl ?_
  refine b_goto hO dX12_reads_87 (tgt := 43) (by decide) ?_
  refine b_sub [1, 0] rfl ?_
  exact hk43 _ _
theorem tfX12_reads_85 (n0 : Nat) (hO : OKc p (rmL 5) s m args meth c LY D cy ad cX12_reads RX12 3 5 none) (k43 : Int32 → Mem → Option (Mem)) (hk43 : ∀ (x2 : Int32) (M : Mem), BL p l e (rmL 5) s m args below meth c LY D cy ad 3 (QV LY D cy ad) 43 [(0, .ref (ad 0)), (2, .int x2)] [] M (k43 x2 M)) (M : Mem) : BL p l e (rmL 5) s m args below meth c LY D cy ad 3 (QV LY D cy ad) 85 [(0, .ref (ad 0))] [] M (fX12_reads_85 n0 k43 M) := by
  unfold fX12_reads_85
  refine b_iconst hO dX12_reads_85 ic_i_0 ?_
  exact tfX12_reads_86 n0 hO k43 hk43 _ _
theorem tfX12_reads_70 (n0 : Nat) (hO : OKc p (rmL 5) s m args meth c LY D cy ad cX12_reads RX12 3 5 none) (k43 : Int32 → Mem → Option (Mem)) (hk43 : ∀ (x2 : Int32) (M : Mem), BL p l e (rmL 5) s m args below meth c LY D cy ad 3 (QV LY D cy ad) 43 [(0, .ref (ad 0)), (2, .int x2)] [] M (k43 x2 M)) (x2 : Int32) (M : Mem) : BL p l e (rmL 5) s m args below meth c LY D cy ad 3 (QV LY D cy ad) 70 [(0, .ref (ad 0)), (2, .int x2)] [] M (fX12_reads_70 n0 k43 x2 M) := by
  unfold fX12_reads_70
  refine b_iload_n hO dX12_reads_70 1 rfl rfl ?_
  refine b_if_eq hO dX12_reads_71 (tgt := 85) (by decide) ?_ ?_
  · refine b_sub [0] rfl ?_
    exact tfX12_reads_85 n0 hO k43 hk43 _
  · refine b_aload_n hO dX12_reads_74 0 rfl rfl ?_
    refine b_get hO flX12_36 kLY_0 (v := .int (gI _ 8)) rfl dX12_reads_75 ?_
    refine b_if_ne hO dX12_reads_78 (tgt := 85) (by decide) ?_ ?_
    · refine b_sub [0] rfl ?_
      exact tfX12_reads_85 n0 hO k43 hk43 _
    · refine b_iconst hO dX12_reads_81 ic_i_1 ?_
      refine b_goto hO dX12_reads_82 (tgt := 86) (by decide) ?_
      refine b_sub [0] rfl ?_
      exact tfX12_reads_86 n0 hO k43 hk43 _ _
theorem tbX12_reads_43 (n0 : Nat) (hO : OKc p (rmL 5) s m args meth c LY D cy ad cX12_reads RX12 3 5 none) (k43 : Int32 → Mem → Option (Mem)) (hk43 : ∀ (x2 : Int32) (M : Mem), BL p l e (rmL 5) s m args below meth c LY D cy ad 3 (QV LY D cy ad) 43 [(0, .ref (ad 0)), (2, .int x2)] [] M (k43 x2 M)) (x2 : Int32) (M : Mem) : BL p l e (rmL 5) s m args below meth c LY D cy ad 3 (QV LY D cy ad) 43 [(0, .ref (ad 0)), (2, .int x2)] [] M (bX12_reads_43 n0 k43 x2 M) := by
  unfold bX12_reads_43
  refine b_iload_n hO dX12_reads_43 1 rfl rfl ?_
  refine b_if_eq hO dX12_reads_44 (tgt := 90) (by decide) ?_ ?_
  · exact b_vret hO dX12_reads_90
  · refine b_aload_n hO dX12_reads_47 0 rfl rfl ?_
    refine b_get hO flX12_150 kLY_0 (v := .int (gI _ 45)) rfl dX12_reads_48 ?_
    refine b_if_ne hO dX12_reads_51 (tgt := 65) (by decide) ?_ ?_
    · refine b_aload_n hO dX12_reads_65 0 rfl rfl ?_
      refine b_callVI hO mdX12_goesOn mvX12_goesOn w1621 (ci := 12) rfl rfl (by decide) kLY_0 (As := []) (st := []) (ctX12_goesOn n0 hO.2.2.2.2.2.2.1 _) (Nat.le_of_ble_eq_true rfl) rfl rfl (Nat.le_of_ble_eq_true rfl) dX12_reads_66 (fun z66 => ?_)
      refine b_istore_n hO dX12_reads_69 rfl (by decide) (lv' := [(2, .int _), (0, .ref _)]) rfl ?_
      refine b_sub [1, 0] rfl ?_
      exact tfX12_reads_70 n0 hO k43 hk43 _ _
    · refine b_aload_n hO dX12_reads_54 0 rfl rfl ?_
      refine b_aload_n hO dX12_reads_55 0 rfl rfl ?_
      refine b_callVI hO mdX12_operand mvX12_operand w1598 (ci := 12) rfl rfl (by decide) kLY_0 (As := []) (st := [.ref _]) (ctX12_operand n0 hO.2.2.2.2.2.2.1 _) (Nat.le_of_ble_eq_true rfl) rfl rfl (Nat.le_of_ble_eq_true rfl) dX12_reads_56 (fun z56 => ?_)
      refine b_putZ hO flX12_150 kLY_0 rfl rfl rfl (id := 45) rfl dX12_reads_59 ?_
      refine b_goto hO dX12_reads_62 (tgt := 70) (by decide) ?_
      exact tfX12_reads_70 n0 hO k43 hk43 _ _
theorem lX12_reads_43 (n0 : Nat) (hO : OKc p (rmL 5) s m args meth c LY D cy ad cX12_reads RX12 3 5 none) : ∀ (w : Nat) (x2 : Int32) (M : Mem), BL p l e (rmL 5) s m args below meth c LY D cy ad 3 (QV LY D cy ad) 43 [(0, .ref (ad 0)), (2, .int x2)] [] M (loopN (bX12_reads_43 n0) (fun _ _ => none) w x2 M) := by
  intro w
  induction w with
  | zero =>
    intros
    exact b_none
  | succ w ih =>
    intro x2 M
    exact tbX12_reads_43 n0 hO _ ih x2 M
theorem tfX12_reads_43 (n0 : Nat) (hO : OKc p (rmL 5) s m args meth c LY D cy ad cX12_reads RX12 3 5 none) (x2 : Int32) (M : Mem) : BL p l e (rmL 5) s m args below meth c LY D cy ad 3 (QV LY D cy ad) 43 [(0, .ref (ad 0)), (2, .int x2)] [] M (fX12_reads_43 n0 x2 M) := lX12_reads_43 n0 hO n0 x2 M
theorem tfX12_reads_38 (n0 : Nat) (hO : OKc p (rmL 5) s m args meth c LY D cy ad cX12_reads RX12 3 5 none) (u1 : Int32) (M : Mem) : BL p l e (rmL 5) s m args below meth c LY D cy ad 3 (QV LY D cy ad) 38 [(0, .ref (ad 0))] [.int u1, .ref (ad 0)] M (fX12_reads_38 n0 u1 M) := by
  unfold fX12_reads_38
  refine b_callVV hO mdX12_pushes mvX12_pushes w1594 (ci := 12) rfl rfl (by decide) kLY_0 (As := [.int _]) (st := []) (ctX12_pushes n0 hO.2.2.2.2.2.2.1 _ _) (Nat.le_of_ble_eq_true rfl) rfl rfl (Nat.le_of_ble_eq_true rfl) dX12_reads_38 (fun z38 => ?_)
  refine b_iconst hO dX12_reads_41 ic_i_1 ?_
  refine b_istore_n hO dX12_reads_42 rfl (by decide) (lv' := [(2, .int _), (0, .ref _)]) rfl ?_
  refine b_sub [1, 0] rfl ?_
  exact tfX12_reads_43 n0 hO _ _
theorem tfX12_reads (n0 : Nat) (hO : OKc p (rmL 5) s m args meth c LY D cy ad cX12_reads RX12 3 5 none) (x1 : Int32) (M : Mem) : BL p l e (rmL 5) s m args below meth c LY D cy ad 3 (QV LY D cy ad) 0 [(0, .ref (ad 0)), (1, .int x1)] [] M (fX12_reads n0 x1 M) := by
  unfold fX12_reads
  refine b_aload_n hO dX12_reads_0 0 rfl rfl ?_
  refine b_get hO flX12_36 kLY_0 (v := .int (gI _ 8)) rfl dX12_reads_1 ?_
  refine b_if_le hO dX12_reads_4 (tgt := 8) (by decide) ?_ ?_
  · refine b_aload_n hO dX12_reads_8 0 rfl rfl ?_
    refine b_iconst hO dX12_reads_9 ic_i_0 ?_
    refine b_putI hO flX12_138 kLY_0 rfl rfl rfl (id := 41) rfl dX12_reads_10 ?_
    refine b_bnd (fun M10 => ?_)
    refine b_aload_n hO dX12_reads_13 0 rfl rfl ?_
    refine b_iconst hO dX12_reads_14 ic_i_0 ?_
    refine b_putI hO flX12_141 kLY_0 rfl rfl rfl (id := 42) rfl dX12_reads_15 ?_
    refine b_bnd (fun M15 => ?_)
    refine b_aload_n hO dX12_reads_18 0 rfl rfl ?_
    refine b_iconst hO dX12_reads_19 ic_i_0 ?_
    refine b_putI hO flX12_147 kLY_0 rfl rfl rfl (id := 44) rfl dX12_reads_20 ?_
    refine b_bnd (fun M20 => ?_)
    refine b_aload_n hO dX12_reads_23 0 rfl rfl ?_
    refine b_iconst hO dX12_reads_24 ic_i_0 ?_
    refine b_putZc hO flX12_150 kLY_0 rfl rfl rfl (id := 45) rfl (Or.inl rfl) dX12_reads_25 ?_
    refine b_bnd (fun M25 => ?_)
    refine b_aload_n hO dX12_reads_28 0 rfl rfl ?_
    refine b_iload_n hO dX12_reads_29 1 rfl rfl ?_
    refine b_if_eq hO dX12_reads_30 (tgt := 37) (by decide) ?_ ?_
    · refine b_iconst hO dX12_reads_37 ic_i_0 ?_
      refine b_sub [0] rfl ?_
      exact tfX12_reads_38 n0 hO _ _
    · refine b_iconst hO dX12_reads_33 ic_i_1 ?_
      refine b_goto hO dX12_reads_34 (tgt := 38) (by decide) ?_
      refine b_sub [0] rfl ?_
      exact tfX12_reads_38 n0 hO _ _
  · exact b_vret hO dX12_reads_7
theorem ctX12_reads (n0 : Nat) (hI : Inj LY ad) (x1 : Int32) (M : Mem) : CT l LY D cy ad yX12_reads cX12_reads 3 none 5 (QV LY D cy ad) [.ref (ad 0), .int x1] M (fX12_reads n0 x1 M) :=
  CT.mk LYok hI (by decide) (Nat.le_of_ble_eq_true rfl) (fun hO => tfX12_reads n0 hO x1 M)
/-! X12_counts -/
def fX12_counts_32 (n0 : Nat) (M : Mem) : Option (Int32 × Mem) :=
  if (gI M 8) = 0 then
    some ((1 : Int32), M)
  else
    some ((0 : Int32), M)
def fX12_counts_21 (n0 : Nat) (M : Mem) : Option (Int32 × Mem) :=
  if (gI M 8) = 0 then
    (fX12_ahead n0 M).bind fun z29 =>
    fX12_counts_32 n0 z29
  else
    fX12_counts_32 n0 M
def fX12_counts (n0 : Nat) (x1 : Int32) (M : Mem) : Option (Int32 × Mem) :=
  if (gI M 8) = 0 then
    if x1 = 0 then
      fX12_counts_21 n0 M
    else
      (fX12_blame n0 (6 : Int32) (gI M 4) M).bind fun z18 =>
      fX12_counts_21 n0 z18
  else
    fX12_counts_21 n0 M
theorem tfX12_counts_32 (n0 : Nat) (hO : OKc p (rmL 3) s m args meth c LY D cy ad cX12_counts RX12 2 3 (some .boolean)) (M : Mem) : BL p l e (rmL 3) s m args below meth c LY D cy ad 2 (QI LY D cy ad) 32 [(0, .ref (ad 0))] [] M (fX12_counts_32 n0 M) := by
  unfold fX12_counts_32
  refine b_aload_n hO dX12_counts_32 0 rfl rfl ?_
  refine b_get hO flX12_36 kLY_0 (v := .int (gI _ 8)) rfl dX12_counts_33 ?_
  refine b_if_ne hO dX12_counts_36 (tgt := 43) (by decide) ?_ ?_
  · refine b_iconst hO dX12_counts_43 ic_i_0 ?_
    exact b_zretc hO (Or.inl rfl) dX12_counts_44
  · refine b_iconst hO dX12_counts_39 ic_i_1 ?_
    refine b_goto hO dX12_counts_40 (tgt := 44) (by decide) ?_
    exact b_zretc hO (Or.inr rfl) dX12_counts_44
theorem tfX12_counts_21 (n0 : Nat) (hO : OKc p (rmL 3) s m args meth c LY D cy ad cX12_counts RX12 2 3 (some .boolean)) (M : Mem) : BL p l e (rmL 3) s m args below meth c LY D cy ad 2 (QI LY D cy ad) 21 [(0, .ref (ad 0))] [] M (fX12_counts_21 n0 M) := by
  unfold fX12_counts_21
  refine b_aload_n hO dX12_counts_21 0 rfl rfl ?_
  refine b_get hO flX12_36 kLY_0 (v := .int (gI _ 8)) rfl dX12_counts_22 ?_
  refine b_if_ne hO dX12_counts_25 (tgt := 32) (by decide) ?_ ?_
  · exact tfX12_counts_32 n0 hO _
  · refine b_aload_n hO dX12_counts_28 0 rfl rfl ?_
    refine b_callVV hO mdX12_ahead mvX12_ahead w1473 (ci := 12) rfl rfl (by decide) kLY_0 (As := []) (st := []) (ctX12_ahead n0 hO.2.2.2.2.2.2.1 _) (Nat.le_of_ble_eq_true rfl) rfl rfl (Nat.le_of_ble_eq_true rfl) dX12_counts_29 (fun z29 => ?_)
    exact tfX12_counts_32 n0 hO _
theorem tfX12_counts (n0 : Nat) (hO : OKc p (rmL 3) s m args meth c LY D cy ad cX12_counts RX12 2 3 (some .boolean)) (x1 : Int32) (M : Mem) : BL p l e (rmL 3) s m args below meth c LY D cy ad 2 (QI LY D cy ad) 0 [(0, .ref (ad 0)), (1, .int x1)] [] M (fX12_counts n0 x1 M) := by
  unfold fX12_counts
  refine b_aload_n hO dX12_counts_0 0 rfl rfl ?_
  refine b_get hO flX12_36 kLY_0 (v := .int (gI _ 8)) rfl dX12_counts_1 ?_
  refine b_if_ne hO dX12_counts_4 (tgt := 21) (by decide) ?_ ?_
  · refine b_sub [0] rfl ?_
    exact tfX12_counts_21 n0 hO _
  · refine b_iload_n hO dX12_counts_7 1 rfl rfl ?_
    refine b_if_eq hO dX12_counts_8 (tgt := 21) (by decide) ?_ ?_
    · refine b_sub [0] rfl ?_
      exact tfX12_counts_21 n0 hO _
    · refine b_aload_n hO dX12_counts_11 0 rfl rfl ?_
      refine b_bipush hO dX12_counts_12 ic_b_6 ?_
      refine b_aload_n hO dX12_counts_14 0 rfl rfl ?_
      refine b_get hO flX12_23 kLY_0 (v := .int (gI _ 4)) rfl dX12_counts_15 ?_
      refine b_callVV hO mdX12_blame mvX12_blame w1491 (ci := 12) rfl rfl (by decide) kLY_0 (As := [.int _, .int _]) (st := []) (ctX12_blame n0 hO.2.2.2.2.2.2.1 _ _ _) (Nat.le_of_ble_eq_true rfl) rfl rfl (Nat.le_of_ble_eq_true rfl) dX12_counts_18 (fun z18 => ?_)
      refine b_sub [0] rfl ?_
      exact tfX12_counts_21 n0 hO _
theorem ctX12_counts (n0 : Nat) (hI : Inj LY ad) (x1 : Int32) (M : Mem) : CT l LY D cy ad yX12_counts cX12_counts 2 (some .boolean) 3 (QI LY D cy ad) [.ref (ad 0), .int x1] M (fX12_counts n0 x1 M) :=
  CT.mk LYok hI (by decide) (Nat.le_of_ble_eq_true rfl) (fun hO => tfX12_counts n0 hO x1 M)
/-! X12_must_ -/
def fX12_must__29 (n0 : Nat) (M : Mem) : Option (Mem) :=
  if (gI M 8) = 0 then
    (fX12_ahead n0 M).bind fun z37 =>
    some z37
  else
    some M
def fX12_must_ (n0 : Nat) (y1 : Int64) (M : Mem) : Option (Mem) :=
  (fX12_lex n0 M).bind fun z1 =>
  if (gI z1 8) ≤ 0 then
    (fX12_isWord n0 y1 z1).bind fun z14 =>
    if z14.1 = 0 then
      (fX12_blame n0 (1 : Int32) (gI z14.2 4) z14.2).bind fun z26 =>
      fX12_must__29 n0 z26
    else
      fX12_must__29 n0 z14.2
  else
    some z1
theorem tfX12_must__29 (n0 : Nat) (hO : OKc p (rmL 3) s m args meth c LY D cy ad cX12_must_ RX12 3 3 none) (M : Mem) : BL p l e (rmL 3) s m args below meth c LY D cy ad 3 (QV LY D cy ad) 29 [(0, .ref (ad 0))] [] M (fX12_must__29 n0 M) := by
  unfold fX12_must__29
  refine b_aload_n hO dX12_must__29 0 rfl rfl ?_
  refine b_get hO flX12_36 kLY_0 (v := .int (gI _ 8)) rfl dX12_must__30 ?_
  refine b_if_ne hO dX12_must__33 (tgt := 40) (by decide) ?_ ?_
  · exact b_vret hO dX12_must__40
  · refine b_aload_n hO dX12_must__36 0 rfl rfl ?_
    refine b_callVV hO mdX12_ahead mvX12_ahead w1473 (ci := 12) rfl rfl (by decide) kLY_0 (As := []) (st := []) (ctX12_ahead n0 hO.2.2.2.2.2.2.1 _) (Nat.le_of_ble_eq_true rfl) rfl rfl (Nat.le_of_ble_eq_true rfl) dX12_must__37 (fun z37 => ?_)
    exact b_vret hO dX12_must__40
theorem tfX12_must_ (n0 : Nat) (hO : OKc p (rmL 3) s m args meth c LY D cy ad cX12_must_ RX12 3 3 none) (y1 : Int64) (M : Mem) : BL p l e (rmL 3) s m args below meth c LY D cy ad 3 (QV LY D cy ad) 0 [(0, .ref (ad 0)), (1, .long y1)] [] M (fX12_must_ n0 y1 M) := by
  unfold fX12_must_
  refine b_aload_n hO dX12_must__0 0 rfl rfl ?_
  refine b_callVV hO mdX12_lex mvX12_lex w1487 (ci := 12) rfl rfl (by decide) kLY_0 (As := []) (st := []) (ctX12_lex n0 hO.2.2.2.2.2.2.1 _) (Nat.le_of_ble_eq_true rfl) rfl rfl (Nat.le_of_ble_eq_true rfl) dX12_must__1 (fun z1 => ?_)
  refine b_aload_n hO dX12_must__4 0 rfl rfl ?_
  refine b_get hO flX12_36 kLY_0 (v := .int (gI _ 8)) rfl dX12_must__5 ?_
  refine b_if_le hO dX12_must__8 (tgt := 12) (by decide) ?_ ?_
  · refine b_aload_n hO dX12_must__12 0 rfl rfl ?_
    refine b_lload_n hO dX12_must__13 1 rfl rfl ?_
    refine b_callVI hO mdX12_isWord mvX12_isWord w1496 (ci := 12) rfl rfl (by decide) kLY_0 (As := [.long _]) (st := []) (ctX12_isWord n0 hO.2.2.2.2.2.2.1 _ _) (Nat.le_of_ble_eq_true rfl) rfl rfl (Nat.le_of_ble_eq_true rfl) dX12_must__14 (fun z14 => ?_)
    refine b_if_ne hO dX12_must__17 (tgt := 29) (by decide) ?_ ?_
    · refine b_sub [0] rfl ?_
      exact tfX12_must__29 n0 hO _
    · refine b_aload_n hO dX12_must__20 0 rfl rfl ?_
      refine b_iconst hO dX12_must__21 ic_i_1 ?_
      refine b_aload_n hO dX12_must__22 0 rfl rfl ?_
      refine b_get hO flX12_23 kLY_0 (v := .int (gI _ 4)) rfl dX12_must__23 ?_
      refine b_callVV hO mdX12_blame mvX12_blame w1491 (ci := 12) rfl rfl (by decide) kLY_0 (As := [.int _, .int _]) (st := []) (ctX12_blame n0 hO.2.2.2.2.2.2.1 _ _ _) (Nat.le_of_ble_eq_true rfl) rfl rfl (Nat.le_of_ble_eq_true rfl) dX12_must__26 (fun z26 => ?_)
      refine b_sub [0] rfl ?_
      exact tfX12_must__29 n0 hO _
  · exact b_vret hO dX12_must__11
theorem ctX12_must_ (n0 : Nat) (hI : Inj LY ad) (y1 : Int64) (M : Mem) : CT l LY D cy ad yX12_must_ cX12_must_ 3 none 3 (QV LY D cy ad) [.ref (ad 0), .long y1] M (fX12_must_ n0 y1 M) :=
  CT.mk LYok hI (by decide) (Nat.le_of_ble_eq_true rfl) (fun hO => tfX12_must_ n0 hO y1 M)
/-! X12_has2 -/
def fX12_has2 (n0 : Nat) (x0 : Int32) (x1 : Int32) (M : Mem) : Option (Int32 × Mem) :=
  if ((x0 >>> (x1 &&& 31)) &&& (1 : Int32)) = (1 : Int32) then
    some ((1 : Int32), M)
  else
    some ((0 : Int32), M)
theorem tfX12_has2 (n0 : Nat) (hO : OKc p (rmL 1) s m args meth c LY D cy ad cX12_has2 RX12 2 1 (some .boolean)) (x0 : Int32) (x1 : Int32) (M : Mem) : BL p l e (rmL 1) s m args below meth c LY D cy ad 2 (QI LY D cy ad) 0 [(0, .int x0), (1, .int x1)] [] M (fX12_has2 n0 x0 x1 M) := by
  unfold fX12_has2
  refine b_iload_n hO dX12_has2_0 0 rfl rfl ?_
  refine b_iload_n hO dX12_has2_1 1 rfl rfl ?_
  refine b_ishr hO dX12_has2_2 ?_
  refine b_iconst hO dX12_has2_3 ic_i_1 ?_
  refine b_iand hO dX12_has2_4 ?_
  refine b_iconst hO dX12_has2_5 ic_i_1 ?_
  refine b_icmp_ne hO dX12_has2_6 (tgt := 13) (by decide) ?_ ?_
  · refine b_iconst hO dX12_has2_13 ic_i_0 ?_
    exact b_zretc hO (Or.inl rfl) dX12_has2_14
  · refine b_iconst hO dX12_has2_9 ic_i_1 ?_
    refine b_goto hO dX12_has2_10 (tgt := 14) (by decide) ?_
    exact b_zretc hO (Or.inr rfl) dX12_has2_14
theorem ctX12_has2 (n0 : Nat) (hI : Inj LY ad) (x0 : Int32) (x1 : Int32) (M : Mem) : CT l LY D cy ad yX12_has2 cX12_has2 2 (some .boolean) 1 (QI LY D cy ad) [.int x0, .int x1] M (fX12_has2 n0 x0 x1 M) :=
  CT.mk LYok hI (by decide) (Nat.le_of_ble_eq_true rfl) (fun hO => tfX12_has2 n0 hO x0 x1 M)
/-! X12_fresh -/
def fX12_fresh_77 (n0 : Nat) (k43 : Int32 → Mem → Option (Int64 × Mem)) (x1 : Int32) (M : Mem) : Option (Int64 × Mem) :=
  k43 (x1 + (1 : Int32)) M
def fX12_fresh_83 (n0 : Nat) (M : Mem) : Option (Int64 × Mem) :=
  bnd (gL M 7) fun y1_87 =>
  if (gI M 8) = 0 then
    (fX12_ahead n0 M).bind fun z96 =>
    some (y1_87, z96)
  else
    some (y1_87, M)
def bX12_fresh_43 (n0 : Nat) (k43 : Int32 → Mem → Option (Int64 × Mem)) (x1 : Int32) (M : Mem) : Option (Int64 × Mem) :=
  if (2 : Int32) < x1 then
    fX12_fresh_83 n0 M
  else
    if (gI M 8) = 0 then
      (fX12_named n0 x1 (gL M 7) M).bind fun z61 =>
      if z61.1 = (-1 : Int32) then
        fX12_fresh_77 n0 k43 x1 z61.2
      else
        (fX12_blame n0 (2 : Int32) (gI z61.2 4) z61.2).bind fun z74 =>
        fX12_fresh_77 n0 k43 x1 z74
    else
      fX12_fresh_83 n0 M
def fX12_fresh_43 (n0 : Nat) : Int32 → Mem → Option (Int64 × Mem) := loopN (bX12_fresh_43 n0) (fun _ _ => none) n0
def fX12_fresh_41 (n0 : Nat) (M : Mem) : Option (Int64 × Mem) :=
  fX12_fresh_43 n0 (0 : Int32) M
def fX12_fresh_32 (n0 : Nat) (M : Mem) : Option (Int64 × Mem) :=
  (fX12_blame n0 (1 : Int32) (gI M 4) M).bind fun z38 =>
  fX12_fresh_41 n0 z38
def fX12_fresh (n0 : Nat) (M : Mem) : Option (Int64 × Mem) :=
  (fX12_lex n0 M).bind fun z1 =>
  if (gI z1 8) ≤ 0 then
    if (gI z1 3) = (1 : Int32) then
      (fX12_isOwn n0 (gL z1 7) z1).bind fun z26 =>
      if z26.1 = 0 then
        fX12_fresh_41 n0 z26.2
      else
        fX12_fresh_32 n0 z26.2
    else
      fX12_fresh_32 n0 z1
  else
    some ((0 : Int64), z1)
theorem tfX12_fresh_77 (n0 : Nat) (hO : OKc p (rmL 3) s m args meth c LY D cy ad cX12_fresh RX12 3 3 (some .long)) (k43 : Int32 → Mem → Option (Int64 × Mem)) (hk43 : ∀ (x1 : Int32) (M : Mem), BL p l e (rmL 3) s m args below meth c LY D cy ad 3 (QL LY D cy ad) 43 [(0, .ref (ad 0)), (1, .int x1)] [] M (k43 x1 M)) (x1 : Int32) (M : Mem) : BL p l e (rmL 3) s m args below meth c LY D cy ad 3 (QL LY D cy ad) 77 [(0, .ref (ad 0)), (1, .int x1)] [] M (fX12_fresh_77 n0 k43 x1 M) := by
  unfold fX12_fresh_77
  refine b_iinc hO dX12_fresh_77 1 rfl ic_i_1 (by decide) (lv' := [(1, .int _), (0, .ref _)]) rfl ?_
  refine b_goto hO dX12_fresh_80 (tgt := 43) (by decide) ?_
  refine b_sub [1, 0] rfl ?_
  exact hk43 _ _
theorem tfX12_fresh_83 (n0 : Nat) (hO : OKc p (rmL 3) s m args meth c LY D cy ad cX12_fresh RX12 3 3 (some .long)) (M : Mem) : BL p l e (rmL 3) s m args below meth c LY D cy ad 3 (QL LY D cy ad) 83 [(0, .ref (ad 0))] [] M (fX12_fresh_83 n0 M) := by
  unfold fX12_fresh_83
  refine b_aload_n hO dX12_fresh_83 0 rfl rfl ?_
  refine b_get hO flX12_32 kLY_0 (v := .long (gL _ 7)) rfl dX12_fresh_84 ?_
  refine b_topL (fun y1_87 => ?_)
  refine b_lstore_n hO dX12_fresh_87 rfl (by decide) (lv' := [(1, .long _), (0, .ref _)]) rfl ?_
  refine b_aload_n hO dX12_fresh_88 1 rfl rfl ?_
  refine b_get hO flX12_36 kLY_0 (v := .int (gI _ 8)) rfl dX12_fresh_89 ?_
  refine b_if_ne hO dX12_fresh_92 (tgt := 99) (by decide) ?_ ?_
  · refine b_lload_n hO dX12_fresh_99 0 rfl rfl ?_
    exact b_lret hO dX12_fresh_100
  · refine b_aload_n hO dX12_fresh_95 1 rfl rfl ?_
    refine b_callVV hO mdX12_ahead mvX12_ahead w1473 (ci := 12) rfl rfl (by decide) kLY_0 (As := []) (st := []) (ctX12_ahead n0 hO.2.2.2.2.2.2.1 _) (Nat.le_of_ble_eq_true rfl) rfl rfl (Nat.le_of_ble_eq_true rfl) dX12_fresh_96 (fun z96 => ?_)
    refine b_lload_n hO dX12_fresh_99 0 rfl rfl ?_
    exact b_lret hO dX12_fresh_100
theorem tbX12_fresh_43 (n0 : Nat) (hO : OKc p (rmL 3) s m args meth c LY D cy ad cX12_fresh RX12 3 3 (some .long)) (k43 : Int32 → Mem → Option (Int64 × Mem)) (hk43 : ∀ (x1 : Int32) (M : Mem), BL p l e (rmL 3) s m args below meth c LY D cy ad 3 (QL LY D cy ad) 43 [(0, .ref (ad 0)), (1, .int x1)] [] M (k43 x1 M)) (x1 : Int32) (M : Mem) : BL p l e (rmL 3) s m args below meth c LY D cy ad 3 (QL LY D cy ad) 43 [(0, .ref (ad 0)), (1, .int x1)] [] M (bX12_fresh_43 n0 k43 x1 M) := by
  unfold bX12_fresh_43
  refine b_iload_n hO dX12_fresh_43 1 rfl rfl ?_
  refine b_iconst hO dX12_fresh_44 ic_i_2 ?_
  refine b_icmp_gt hO dX12_fresh_45 (tgt := 83) (by decide) ?_ ?_
  · refine b_sub [0] rfl ?_
    exact tfX12_fresh_83 n0 hO _
  · refine b_aload_n hO dX12_fresh_48 0 rfl rfl ?_
    refine b_get hO flX12_36 kLY_0 (v := .int (gI _ 8)) rfl dX12_fresh_49 ?_
    refine b_if_ne hO dX12_fresh_52 (tgt := 83) (by decide) ?_ ?_
    · refine b_sub [0] rfl ?_
      exact tfX12_fresh_83 n0 hO _
    · refine b_aload_n hO dX12_fresh_55 0 rfl rfl ?_
      refine b_iload_n hO dX12_fresh_56 1 rfl rfl ?_
      refine b_aload_n hO dX12_fresh_57 0 rfl rfl ?_
      refine b_get hO flX12_32 kLY_0 (v := .long (gL _ 7)) rfl dX12_fresh_58 ?_
      refine b_callVI hO mdX12_named mvX12_named w1540 (ci := 12) rfl rfl (by decide) kLY_0 (As := [.int _, .long _]) (st := []) (ctX12_named n0 hO.2.2.2.2.2.2.1 _ _ _) (Nat.le_of_ble_eq_true rfl) rfl rfl (Nat.le_of_ble_eq_true rfl) dX12_fresh_61 (fun z61 => ?_)
      refine b_iconst hO dX12_fresh_64 ic_i_m1 ?_
      refine b_icmp_eq hO dX12_fresh_65 (tgt := 77) (by decide) ?_ ?_
      · exact tfX12_fresh_77 n0 hO k43 hk43 _ _
      · refine b_aload_n hO dX12_fresh_68 0 rfl rfl ?_
        refine b_iconst hO dX12_fresh_69 ic_i_2 ?_
        refine b_aload_n hO dX12_fresh_70 0 rfl rfl ?_
        refine b_get hO flX12_23 kLY_0 (v := .int (gI _ 4)) rfl dX12_fresh_71 ?_
        refine b_callVV hO mdX12_blame mvX12_blame w1491 (ci := 12) rfl rfl (by decide) kLY_0 (As := [.int _, .int _]) (st := []) (ctX12_blame n0 hO.2.2.2.2.2.2.1 _ _ _) (Nat.le_of_ble_eq_true rfl) rfl rfl (Nat.le_of_ble_eq_true rfl) dX12_fresh_74 (fun z74 => ?_)
        exact tfX12_fresh_77 n0 hO k43 hk43 _ _
theorem lX12_fresh_43 (n0 : Nat) (hO : OKc p (rmL 3) s m args meth c LY D cy ad cX12_fresh RX12 3 3 (some .long)) : ∀ (w : Nat) (x1 : Int32) (M : Mem), BL p l e (rmL 3) s m args below meth c LY D cy ad 3 (QL LY D cy ad) 43 [(0, .ref (ad 0)), (1, .int x1)] [] M (loopN (bX12_fresh_43 n0) (fun _ _ => none) w x1 M) := by
  intro w
  induction w with
  | zero =>
    intros
    exact b_none
  | succ w ih =>
    intro x1 M
    exact tbX12_fresh_43 n0 hO _ ih x1 M
theorem tfX12_fresh_43 (n0 : Nat) (hO : OKc p (rmL 3) s m args meth c LY D cy ad cX12_fresh RX12 3 3 (some .long)) (x1 : Int32) (M : Mem) : BL p l e (rmL 3) s m args below meth c LY D cy ad 3 (QL LY D cy ad) 43 [(0, .ref (ad 0)), (1, .int x1)] [] M (fX12_fresh_43 n0 x1 M) := lX12_fresh_43 n0 hO n0 x1 M
theorem tfX12_fresh_41 (n0 : Nat) (hO : OKc p (rmL 3) s m args meth c LY D cy ad cX12_fresh RX12 3 3 (some .long)) (M : Mem) : BL p l e (rmL 3) s m args below meth c LY D cy ad 3 (QL LY D cy ad) 41 [(0, .ref (ad 0))] [] M (fX12_fresh_41 n0 M) := by
  unfold fX12_fresh_41
  refine b_iconst hO dX12_fresh_41 ic_i_0 ?_
  refine b_istore_n hO dX12_fresh_42 rfl (by decide) (lv' := [(1, .int _), (0, .ref _)]) rfl ?_
  refine b_sub [1, 0] rfl ?_
  exact tfX12_fresh_43 n0 hO _ _
theorem tfX12_fresh_32 (n0 : Nat) (hO : OKc p (rmL 3) s m args meth c LY D cy ad cX12_fresh RX12 3 3 (some .long)) (M : Mem) : BL p l e (rmL 3) s m args below meth c LY D cy ad 3 (QL LY D cy ad) 32 [(0, .ref (ad 0))] [] M (fX12_fresh_32 n0 M) := by
  unfold fX12_fresh_32
  refine b_aload_n hO dX12_fresh_32 0 rfl rfl ?_
  refine b_iconst hO dX12_fresh_33 ic_i_1 ?_
  refine b_aload_n hO dX12_fresh_34 0 rfl rfl ?_
  refine b_get hO flX12_23 kLY_0 (v := .int (gI _ 4)) rfl dX12_fresh_35 ?_
  refine b_callVV hO mdX12_blame mvX12_blame w1491 (ci := 12) rfl rfl (by decide) kLY_0 (As := [.int _, .int _]) (st := []) (ctX12_blame n0 hO.2.2.2.2.2.2.1 _ _ _) (Nat.le_of_ble_eq_true rfl) rfl rfl (Nat.le_of_ble_eq_true rfl) dX12_fresh_38 (fun z38 => ?_)
  exact tfX12_fresh_41 n0 hO _
theorem tfX12_fresh (n0 : Nat) (hO : OKc p (rmL 3) s m args meth c LY D cy ad cX12_fresh RX12 3 3 (some .long)) (M : Mem) : BL p l e (rmL 3) s m args below meth c LY D cy ad 3 (QL LY D cy ad) 0 [(0, .ref (ad 0))] [] M (fX12_fresh n0 M) := by
  unfold fX12_fresh
  refine b_aload_n hO dX12_fresh_0 0 rfl rfl ?_
  refine b_callVV hO mdX12_lex mvX12_lex w1487 (ci := 12) rfl rfl (by decide) kLY_0 (As := []) (st := []) (ctX12_lex n0 hO.2.2.2.2.2.2.1 _) (Nat.le_of_ble_eq_true rfl) rfl rfl (Nat.le_of_ble_eq_true rfl) dX12_fresh_1 (fun z1 => ?_)
  refine b_aload_n hO dX12_fresh_4 0 rfl rfl ?_
  refine b_get hO flX12_36 kLY_0 (v := .int (gI _ 8)) rfl dX12_fresh_5 ?_
  refine b_if_le hO dX12_fresh_8 (tgt := 13) (by decide) ?_ ?_
  · refine b_aload_n hO dX12_fresh_13 0 rfl rfl ?_
    refine b_get hO flX12_20 kLY_0 (v := .int (gI _ 3)) rfl dX12_fresh_14 ?_
    refine b_iconst hO dX12_fresh_17 ic_i_1 ?_
    refine b_icmp_ne hO dX12_fresh_18 (tgt := 32) (by decide) ?_ ?_
    · exact tfX12_fresh_32 n0 hO _
    · refine b_aload_n hO dX12_fresh_21 0 rfl rfl ?_
      refine b_aload_n hO dX12_fresh_22 0 rfl rfl ?_
      refine b_get hO flX12_32 kLY_0 (v := .long (gL _ 7)) rfl dX12_fresh_23 ?_
      refine b_callVI hO mdX12_isOwn mvX12_isOwn w1512 (ci := 12) rfl rfl (by decide) kLY_0 (As := [.long _]) (st := []) (ctX12_isOwn n0 hO.2.2.2.2.2.2.1 _ _) (Nat.le_of_ble_eq_true rfl) rfl rfl (Nat.le_of_ble_eq_true rfl) dX12_fresh_26 (fun z26 => ?_)
      refine b_if_eq hO dX12_fresh_29 (tgt := 41) (by decide) ?_ ?_
      · exact tfX12_fresh_41 n0 hO _
      · exact tfX12_fresh_32 n0 hO _
  · refine b_lconst hO dX12_fresh_11 (v := 0) rfl ?_
    exact b_lret hO dX12_fresh_12
theorem ctX12_fresh (n0 : Nat) (hI : Inj LY ad) (M : Mem) : CT l LY D cy ad yX12_fresh cX12_fresh 3 (some .long) 3 (QL LY D cy ad) [.ref (ad 0)] M (fX12_fresh n0 M) :=
  CT.mk LYok hI (by decide) (Nat.le_of_ble_eq_true rfl) (fun hO => tfX12_fresh n0 hO M)
/-! X12_knownBut -/
def fX12_knownBut_102 (n0 : Nat) (x3 : Int32) (M : Mem) : Option (Int32 × Mem) :=
  if (gI M 8) ≤ 0 then
    some (x3, M)
  else
    some ((0 : Int32), M)
def fX12_knownBut_91 (n0 : Nat) (x3 : Int32) (M : Mem) : Option (Int32 × Mem) :=
  if (gI M 8) = 0 then
    (fX12_ahead n0 M).bind fun z99 =>
    fX12_knownBut_102 n0 x3 z99
  else
    fX12_knownBut_102 n0 x3 M
def fX12_knownBut_82 (n0 : Nat) (x3 : Int32) (M : Mem) : Option (Int32 × Mem) :=
  (fX12_blame n0 (3 : Int32) (gI M 4) M).bind fun z88 =>
  fX12_knownBut_91 n0 x3 z88
def fX12_knownBut_61 (n0 : Nat) (x2 : Int32) (u0 : Int32) (M : Mem) : Option (Int32 × Mem) :=
  if (gI M 8) = 0 then
    if u0 = (-1 : Int32) then
      fX12_knownBut_82 n0 u0 M
    else
      (fX12_has2 n0 x2 u0 M).bind fun z76 =>
      if z76.1 = 0 then
        fX12_knownBut_91 n0 u0 z76.2
      else
        fX12_knownBut_82 n0 u0 z76.2
  else
    fX12_knownBut_91 n0 u0 M
def fX12_knownBut_41 (n0 : Nat) (x1 : Int32) (x2 : Int32) (M : Mem) : Option (Int32 × Mem) :=
  if (gI M 8) ≤ 0 then
    (fX12_named n0 x1 (gL M 7) M).bind fun z58 =>
    fX12_knownBut_61 n0 x2 z58.1 z58.2
  else
    fX12_knownBut_61 n0 x2 (0 : Int32) M
def fX12_knownBut_32 (n0 : Nat) (x1 : Int32) (x2 : Int32) (M : Mem) : Option (Int32 × Mem) :=
  (fX12_blame n0 (1 : Int32) (gI M 4) M).bind fun z38 =>
  fX12_knownBut_41 n0 x1 x2 z38
def fX12_knownBut (n0 : Nat) (x1 : Int32) (x2 : Int32) (M : Mem) : Option (Int32 × Mem) :=
  (fX12_lex n0 M).bind fun z1 =>
  if (gI z1 8) ≤ 0 then
    if (gI z1 3) = (1 : Int32) then
      (fX12_isOwn n0 (gL z1 7) z1).bind fun z26 =>
      if z26.1 = 0 then
        fX12_knownBut_41 n0 x1 x2 z26.2
      else
        fX12_knownBut_32 n0 x1 x2 z26.2
    else
      fX12_knownBut_32 n0 x1 x2 z1
  else
    some ((0 : Int32), z1)
theorem tfX12_knownBut_102 (n0 : Nat) (hO : OKc p (rmL 3) s m args meth c LY D cy ad cX12_knownBut RX12 4 3 (some .int)) (x3 : Int32) (M : Mem) : BL p l e (rmL 3) s m args below meth c LY D cy ad 4 (QI LY D cy ad) 102 [(0, .ref (ad 0)), (3, .int x3)] [] M (fX12_knownBut_102 n0 x3 M) := by
  unfold fX12_knownBut_102
  refine b_aload_n hO dX12_knownBut_102 0 rfl rfl ?_
  refine b_get hO flX12_36 kLY_0 (v := .int (gI _ 8)) rfl dX12_knownBut_103 ?_
  refine b_if_le hO dX12_knownBut_106 (tgt := 113) (by decide) ?_ ?_
  · refine b_iload_n hO dX12_knownBut_113 1 rfl rfl ?_
    exact b_iret hO dX12_knownBut_114
  · refine b_iconst hO dX12_knownBut_109 ic_i_0 ?_
    refine b_goto hO dX12_knownBut_110 (tgt := 114) (by decide) ?_
    exact b_iret hO dX12_knownBut_114
theorem tfX12_knownBut_91 (n0 : Nat) (hO : OKc p (rmL 3) s m args meth c LY D cy ad cX12_knownBut RX12 4 3 (some .int)) (x3 : Int32) (M : Mem) : BL p l e (rmL 3) s m args below meth c LY D cy ad 4 (QI LY D cy ad) 91 [(0, .ref (ad 0)), (3, .int x3)] [] M (fX12_knownBut_91 n0 x3 M) := by
  unfold fX12_knownBut_91
  refine b_aload_n hO dX12_knownBut_91 0 rfl rfl ?_
  refine b_get hO flX12_36 kLY_0 (v := .int (gI _ 8)) rfl dX12_knownBut_92 ?_
  refine b_if_ne hO dX12_knownBut_95 (tgt := 102) (by decide) ?_ ?_
  · exact tfX12_knownBut_102 n0 hO _ _
  · refine b_aload_n hO dX12_knownBut_98 0 rfl rfl ?_
    refine b_callVV hO mdX12_ahead mvX12_ahead w1473 (ci := 12) rfl rfl (by decide) kLY_0 (As := []) (st := []) (ctX12_ahead n0 hO.2.2.2.2.2.2.1 _) (Nat.le_of_ble_eq_true rfl) rfl rfl (Nat.le_of_ble_eq_true rfl) dX12_knownBut_99 (fun z99 => ?_)
    exact tfX12_knownBut_102 n0 hO _ _
theorem tfX12_knownBut_82 (n0 : Nat) (hO : OKc p (rmL 3) s m args meth c LY D cy ad cX12_knownBut RX12 4 3 (some .int)) (x3 : Int32) (M : Mem) : BL p l e (rmL 3) s m args below meth c LY D cy ad 4 (QI LY D cy ad) 82 [(0, .ref (ad 0)), (3, .int x3)] [] M (fX12_knownBut_82 n0 x3 M) := by
  unfold fX12_knownBut_82
  refine b_aload_n hO dX12_knownBut_82 0 rfl rfl ?_
  refine b_iconst hO dX12_knownBut_83 ic_i_3 ?_
  refine b_aload_n hO dX12_knownBut_84 0 rfl rfl ?_
  refine b_get hO flX12_23 kLY_0 (v := .int (gI _ 4)) rfl dX12_knownBut_85 ?_
  refine b_callVV hO mdX12_blame mvX12_blame w1491 (ci := 12) rfl rfl (by decide) kLY_0 (As := [.int _, .int _]) (st := []) (ctX12_blame n0 hO.2.2.2.2.2.2.1 _ _ _) (Nat.le_of_ble_eq_true rfl) rfl rfl (Nat.le_of_ble_eq_true rfl) dX12_knownBut_88 (fun z88 => ?_)
  exact tfX12_knownBut_91 n0 hO _ _
theorem tfX12_knownBut_61 (n0 : Nat) (hO : OKc p (rmL 3) s m args meth c LY D cy ad cX12_knownBut RX12 4 3 (some .int)) (x2 : Int32) (u0 : Int32) (M : Mem) : BL p l e (rmL 3) s m args below meth c LY D cy ad 4 (QI LY D cy ad) 61 [(0, .ref (ad 0)), (2, .int x2)] [.int u0] M (fX12_knownBut_61 n0 x2 u0 M) := by
  unfold fX12_knownBut_61
  refine b_istore_n hO dX12_knownBut_61 rfl (by decide) (lv' := [(3, .int _), (0, .ref _), (2, .int _)]) rfl ?_
  refine b_aload_n hO dX12_knownBut_62 1 rfl rfl ?_
  refine b_get hO flX12_36 kLY_0 (v := .int (gI _ 8)) rfl dX12_knownBut_63 ?_
  refine b_if_ne hO dX12_knownBut_66 (tgt := 91) (by decide) ?_ ?_
  · refine b_sub [1, 0] rfl ?_
    exact tfX12_knownBut_91 n0 hO _ _
  · refine b_iload_n hO dX12_knownBut_69 0 rfl rfl ?_
    refine b_iconst hO dX12_knownBut_70 ic_i_m1 ?_
    refine b_icmp_eq hO dX12_knownBut_71 (tgt := 82) (by decide) ?_ ?_
    · refine b_sub [1, 0] rfl ?_
      exact tfX12_knownBut_82 n0 hO _ _
    · refine b_iload_n hO dX12_knownBut_74 2 rfl rfl ?_
      refine b_iload_n hO dX12_knownBut_75 0 rfl rfl ?_
      refine b_callSI hO mdX12_has2 w1576 w1575 (As := [.int _, .int _]) (st := []) (ctX12_has2 n0 hO.2.2.2.2.2.2.1 _ _ _) (Nat.le_of_ble_eq_true rfl) rfl rfl (Nat.le_of_ble_eq_true rfl) dX12_knownBut_76 (fun z76 => ?_)
      refine b_if_eq hO dX12_knownBut_79 (tgt := 91) (by decide) ?_ ?_
      · refine b_sub [1, 0] rfl ?_
        exact tfX12_knownBut_91 n0 hO _ _
      · refine b_sub [1, 0] rfl ?_
        exact tfX12_knownBut_82 n0 hO _ _
theorem tfX12_knownBut_41 (n0 : Nat) (hO : OKc p (rmL 3) s m args meth c LY D cy ad cX12_knownBut RX12 4 3 (some .int)) (x1 : Int32) (x2 : Int32) (M : Mem) : BL p l e (rmL 3) s m args below meth c LY D cy ad 4 (QI LY D cy ad) 41 [(0, .ref (ad 0)), (1, .int x1), (2, .int x2)] [] M (fX12_knownBut_41 n0 x1 x2 M) := by
  unfold fX12_knownBut_41
  refine b_aload_n hO dX12_knownBut_41 0 rfl rfl ?_
  refine b_get hO flX12_36 kLY_0 (v := .int (gI _ 8)) rfl dX12_knownBut_42 ?_
  refine b_if_le hO dX12_knownBut_45 (tgt := 52) (by decide) ?_ ?_
  · refine b_aload_n hO dX12_knownBut_52 0 rfl rfl ?_
    refine b_iload_n hO dX12_knownBut_53 1 rfl rfl ?_
    refine b_aload_n hO dX12_knownBut_54 0 rfl rfl ?_
    refine b_get hO flX12_32 kLY_0 (v := .long (gL _ 7)) rfl dX12_knownBut_55 ?_
    refine b_callVI hO mdX12_named mvX12_named w1540 (ci := 12) rfl rfl (by decide) kLY_0 (As := [.int _, .long _]) (st := []) (ctX12_named n0 hO.2.2.2.2.2.2.1 _ _ _) (Nat.le_of_ble_eq_true rfl) rfl rfl (Nat.le_of_ble_eq_true rfl) dX12_knownBut_58 (fun z58 => ?_)
    refine b_sub [0, 2] rfl ?_
    exact tfX12_knownBut_61 n0 hO _ _ _
  · refine b_iconst hO dX12_knownBut_48 ic_i_0 ?_
    refine b_goto hO dX12_knownBut_49 (tgt := 61) (by decide) ?_
    refine b_sub [0, 2] rfl ?_
    exact tfX12_knownBut_61 n0 hO _ _ _
theorem tfX12_knownBut_32 (n0 : Nat) (hO : OKc p (rmL 3) s m args meth c LY D cy ad cX12_knownBut RX12 4 3 (some .int)) (x1 : Int32) (x2 : Int32) (M : Mem) : BL p l e (rmL 3) s m args below meth c LY D cy ad 4 (QI LY D cy ad) 32 [(0, .ref (ad 0)), (1, .int x1), (2, .int x2)] [] M (fX12_knownBut_32 n0 x1 x2 M) := by
  unfold fX12_knownBut_32
  refine b_aload_n hO dX12_knownBut_32 0 rfl rfl ?_
  refine b_iconst hO dX12_knownBut_33 ic_i_1 ?_
  refine b_aload_n hO dX12_knownBut_34 0 rfl rfl ?_
  refine b_get hO flX12_23 kLY_0 (v := .int (gI _ 4)) rfl dX12_knownBut_35 ?_
  refine b_callVV hO mdX12_blame mvX12_blame w1491 (ci := 12) rfl rfl (by decide) kLY_0 (As := [.int _, .int _]) (st := []) (ctX12_blame n0 hO.2.2.2.2.2.2.1 _ _ _) (Nat.le_of_ble_eq_true rfl) rfl rfl (Nat.le_of_ble_eq_true rfl) dX12_knownBut_38 (fun z38 => ?_)
  exact tfX12_knownBut_41 n0 hO _ _ _
theorem tfX12_knownBut (n0 : Nat) (hO : OKc p (rmL 3) s m args meth c LY D cy ad cX12_knownBut RX12 4 3 (some .int)) (x1 : Int32) (x2 : Int32) (M : Mem) : BL p l e (rmL 3) s m args below meth c LY D cy ad 4 (QI LY D cy ad) 0 [(0, .ref (ad 0)), (1, .int x1), (2, .int x2)] [] M (fX12_knownBut n0 x1 x2 M) := by
  unfold fX12_knownBut
  refine b_aload_n hO dX12_knownBut_0 0 rfl rfl ?_
  refine b_callVV hO mdX12_lex mvX12_lex w1487 (ci := 12) rfl rfl (by decide) kLY_0 (As := []) (st := []) (ctX12_lex n0 hO.2.2.2.2.2.2.1 _) (Nat.le_of_ble_eq_true rfl) rfl rfl (Nat.le_of_ble_eq_true rfl) dX12_knownBut_1 (fun z1 => ?_)
  refine b_aload_n hO dX12_knownBut_4 0 rfl rfl ?_
  refine b_get hO flX12_36 kLY_0 (v := .int (gI _ 8)) rfl dX12_knownBut_5 ?_
  refine b_if_le hO dX12_knownBut_8 (tgt := 13) (by decide) ?_ ?_
  · refine b_aload_n hO dX12_knownBut_13 0 rfl rfl ?_
    refine b_get hO flX12_20 kLY_0 (v := .int (gI _ 3)) rfl dX12_knownBut_14 ?_
    refine b_iconst hO dX12_knownBut_17 ic_i_1 ?_
    refine b_icmp_ne hO dX12_knownBut_18 (tgt := 32) (by decide) ?_ ?_
    · exact tfX12_knownBut_32 n0 hO _ _ _
    · refine b_aload_n hO dX12_knownBut_21 0 rfl rfl ?_
      refine b_aload_n hO dX12_knownBut_22 0 rfl rfl ?_
      refine b_get hO flX12_32 kLY_0 (v := .long (gL _ 7)) rfl dX12_knownBut_23 ?_
      refine b_callVI hO mdX12_isOwn mvX12_isOwn w1512 (ci := 12) rfl rfl (by decide) kLY_0 (As := [.long _]) (st := []) (ctX12_isOwn n0 hO.2.2.2.2.2.2.1 _ _) (Nat.le_of_ble_eq_true rfl) rfl rfl (Nat.le_of_ble_eq_true rfl) dX12_knownBut_26 (fun z26 => ?_)
      refine b_if_eq hO dX12_knownBut_29 (tgt := 41) (by decide) ?_ ?_
      · exact tfX12_knownBut_41 n0 hO _ _ _
      · exact tfX12_knownBut_32 n0 hO _ _ _
  · refine b_iconst hO dX12_knownBut_11 ic_i_0 ?_
    exact b_iret hO dX12_knownBut_12
theorem ctX12_knownBut (n0 : Nat) (hI : Inj LY ad) (x1 : Int32) (x2 : Int32) (M : Mem) : CT l LY D cy ad yX12_knownBut cX12_knownBut 4 (some .int) 3 (QI LY D cy ad) [.ref (ad 0), .int x1, .int x2] M (fX12_knownBut n0 x1 x2 M) :=
  CT.mk LYok hI (by decide) (Nat.le_of_ble_eq_true rfl) (fun hO => tfX12_knownBut n0 hO x1 x2 M)
/-! X12_at -/
def fX12_at (n0 : Nat) (x1 : Int32) (x2 : Int32) (x3 : Int32) (M : Mem) : Option (Int32 × Mem) :=
  some (((((25 : Int32) * x1) + ((5 : Int32) * x2)) + x3), M)
theorem tfX12_at (n0 : Nat) (hO : OKc p (rmL 1) s m args meth c LY D cy ad cX12_at RX12 4 1 (some .int)) (x1 : Int32) (x2 : Int32) (x3 : Int32) (M : Mem) : BL p l e (rmL 1) s m args below meth c LY D cy ad 4 (QI LY D cy ad) 0 [(0, .ref (ad 0)), (1, .int x1), (2, .int x2), (3, .int x3)] [] M (fX12_at n0 x1 x2 x3 M) := by
  unfold fX12_at
  refine b_bipush hO dX12_at_0 ic_b_25 ?_
  refine b_iload_n hO dX12_at_2 1 rfl rfl ?_
  refine b_imul hO dX12_at_3 ?_
  refine b_iconst hO dX12_at_4 ic_i_5 ?_
  refine b_iload_n hO dX12_at_5 2 rfl rfl ?_
  refine b_imul hO dX12_at_6 ?_
  refine b_iadd hO dX12_at_7 ?_
  refine b_iload_n hO dX12_at_8 3 rfl rfl ?_
  refine b_iadd hO dX12_at_9 ?_
  exact b_iret hO dX12_at_10
theorem ctX12_at (n0 : Nat) (hI : Inj LY ad) (x1 : Int32) (x2 : Int32) (x3 : Int32) (M : Mem) : CT l LY D cy ad yX12_at cX12_at 4 (some .int) 1 (QI LY D cy ad) [.ref (ad 0), .int x1, .int x2, .int x3] M (fX12_at n0 x1 x2 x3 M) :=
  CT.mk LYok hI (by decide) (Nat.le_of_ble_eq_true rfl) (fun hO => tfX12_at n0 hO x1 x2 x3 M)
/-! X12_thinging -/
def fX12_thinging_20 (n0 : Nat) (u1 : Int32) (M : Mem) : Option (Mem) :=
  (fX12_counts n0 u1 M).bind fun z20 =>
  if z20.1 = 0 then
    some z20.2
  else
    if oob (gI z20.2 34) 2 then none else
    bnd (((6 : Int32) * (gI z20.2 34)) + (gA z20.2 2 (Int32.toNatClampNeg (gI z20.2 34)))) fun x1_44 =>
    (fX12_fresh n0 z20.2).bind fun z51 =>
    if oob x1_44 12 then none else
    bnd (sB z51.2 18 (Int32.toNatClampNeg x1_44) z51.1) fun M54 =>
    (fX12_must_ n0 (512802514792 : Int64) M54).bind fun z59 =>
    (fX12_number n0 (0 : Int32) (99 : Int32) z59).bind fun z71 =>
    if oob x1_44 12 then none else
    bnd (sA z71.2 3 (Int32.toNatClampNeg x1_44) z71.1) fun M74 =>
    (fX12_must_ n0 (465491424371 : Int64) M74).bind fun z79 =>
    (fX12_number n0 (1 : Int32) (99 : Int32) z79).bind fun z91 =>
    if oob x1_44 12 then none else
    bnd (sA z91.2 4 (Int32.toNatClampNeg x1_44) z91.1) fun M94 =>
    if (gI M94 8) = 0 then
      if oob (gI M94 34) 2 then none else
      if oob (gI M94 34) 2 then none else
      some (sA M94 2 (Int32.toNatClampNeg (gI M94 34)) ((gA M94 2 (Int32.toNatClampNeg (gI M94 34))) + (1 : Int32)))
    else
      some M94
def fX12_thinging (n0 : Nat) (M : Mem) : Option (Mem) :=
  if oob (gI M 34) 2 then none else
  if (gA M 2 (Int32.toNatClampNeg (gI M 34))) = (6 : Int32) then
    fX12_thinging_20 n0 (1 : Int32) M
  else
    fX12_thinging_20 n0 (0 : Int32) M
theorem tfX12_thinging_20 (n0 : Nat) (hO : OKc p (rmL 4) s m args meth c LY D cy ad cX12_thinging RX12 2 4 none) (u1 : Int32) (M : Mem) : BL p l e (rmL 4) s m args below meth c LY D cy ad 2 (QV LY D cy ad) 20 [(0, .ref (ad 0))] [.int u1, .ref (ad 0)] M (fX12_thinging_20 n0 u1 M) := by
  unfold fX12_thinging_20
  refine b_callVI hO mdX12_counts mvX12_counts w1504 (ci := 12) rfl rfl (by decide) kLY_0 (As := [.int _]) (st := []) (ctX12_counts n0 hO.2.2.2.2.2.2.1 _ _) (Nat.le_of_ble_eq_true rfl) rfl rfl (Nat.le_of_ble_eq_true rfl) dX12_thinging_20 (fun z20 => ?_)
  refine b_if_ne hO dX12_thinging_23 (tgt := 27) (by decide) ?_ ?_
  · refine b_bipush hO dX12_thinging_27 ic_b_6 ?_
    refine b_aload_n hO dX12_thinging_29 0 rfl rfl ?_
    refine b_get hO flX12_115 kLY_0 (v := .int (gI _ 34)) rfl dX12_thinging_30 ?_
    refine b_imul hO dX12_thinging_33 ?_
    refine b_aload_n hO dX12_thinging_34 0 rfl rfl ?_
    refine b_get hO flX12_54 kLY_0 (v := .ref (ad 2)) rfl dX12_thinging_35 ?_
    refine b_aload_n hO dX12_thinging_38 0 rfl rfl ?_
    refine b_get hO flX12_115 kLY_0 (v := .int (gI _ 34)) rfl dX12_thinging_39 ?_
    refine b_iald hO kLY_2 (n := 2) rfl dX12_thinging_42 ?_
    refine b_iadd hO dX12_thinging_43 ?_
    refine b_topI (fun x1_44 => ?_)
    refine b_istore_n hO dX12_thinging_44 rfl (by decide) (lv' := [(1, .int _), (0, .ref _)]) rfl ?_
    refine b_aload_n hO dX12_thinging_45 1 rfl rfl ?_
    refine b_get hO flX12_102 kLY_0 (v := .ref (ad 18)) rfl dX12_thinging_46 ?_
    refine b_iload_n hO dX12_thinging_49 0 rfl rfl ?_
    refine b_aload_n hO dX12_thinging_50 1 rfl rfl ?_
    refine b_callVL hO mdX12_fresh mvX12_fresh w1508 (ci := 12) rfl rfl (by decide) kLY_0 (As := []) (st := [.int _, .ref _]) (ctX12_fresh n0 hO.2.2.2.2.2.2.1 _) (Nat.le_of_ble_eq_true rfl) rfl rfl (Nat.le_of_ble_eq_true rfl) dX12_thinging_51 (fun z51 => ?_)
    refine b_last hO kLY_18 (n := 12) rfl dX12_thinging_54 ?_
    refine b_bnd (fun M54 => ?_)
    refine b_aload_n hO dX12_thinging_55 1 rfl rfl ?_
    refine b_ldc2 hO w1516 dX12_thinging_56 ?_
    refine b_callVV hO mdX12_must_ mvX12_must_ w1552 (ci := 12) rfl rfl (by decide) kLY_0 (As := [.long _]) (st := []) (ctX12_must_ n0 hO.2.2.2.2.2.2.1 _ _) (Nat.le_of_ble_eq_true rfl) rfl rfl (Nat.le_of_ble_eq_true rfl) dX12_thinging_59 (fun z59 => ?_)
    refine b_aload_n hO dX12_thinging_62 1 rfl rfl ?_
    refine b_get hO flX12_57 kLY_0 (v := .ref (ad 3)) rfl dX12_thinging_63 ?_
    refine b_iload_n hO dX12_thinging_66 0 rfl rfl ?_
    refine b_aload_n hO dX12_thinging_67 1 rfl rfl ?_
    refine b_iconst hO dX12_thinging_68 ic_i_0 ?_
    refine b_bipush hO dX12_thinging_69 ic_b_99 ?_
    refine b_callVI hO mdX12_number mvX12_number w1556 (ci := 12) rfl rfl (by decide) kLY_0 (As := [.int _, .int _]) (st := [.int _, .ref _]) (ctX12_number n0 hO.2.2.2.2.2.2.1 _ _ _) (Nat.le_of_ble_eq_true rfl) rfl rfl (Nat.le_of_ble_eq_true rfl) dX12_thinging_71 (fun z71 => ?_)
    refine b_iast hO kLY_3 (n := 12) rfl dX12_thinging_74 ?_
    refine b_bnd (fun M74 => ?_)
    refine b_aload_n hO dX12_thinging_75 1 rfl rfl ?_
    refine b_ldc2 hO w1517 dX12_thinging_76 ?_
    refine b_callVV hO mdX12_must_ mvX12_must_ w1552 (ci := 12) rfl rfl (by decide) kLY_0 (As := [.long _]) (st := []) (ctX12_must_ n0 hO.2.2.2.2.2.2.1 _ _) (Nat.le_of_ble_eq_true rfl) rfl rfl (Nat.le_of_ble_eq_true rfl) dX12_thinging_79 (fun z79 => ?_)
    refine b_aload_n hO dX12_thinging_82 1 rfl rfl ?_
    refine b_get hO flX12_60 kLY_0 (v := .ref (ad 4)) rfl dX12_thinging_83 ?_
    refine b_iload_n hO dX12_thinging_86 0 rfl rfl ?_
    refine b_aload_n hO dX12_thinging_87 1 rfl rfl ?_
    refine b_iconst hO dX12_thinging_88 ic_i_1 ?_
    refine b_bipush hO dX12_thinging_89 ic_b_99 ?_
    refine b_callVI hO mdX12_number mvX12_number w1556 (ci := 12) rfl rfl (by decide) kLY_0 (As := [.int _, .int _]) (st := [.int _, .ref _]) (ctX12_number n0 hO.2.2.2.2.2.2.1 _ _ _) (Nat.le_of_ble_eq_true rfl) rfl rfl (Nat.le_of_ble_eq_true rfl) dX12_thinging_91 (fun z91 => ?_)
    refine b_iast hO kLY_4 (n := 12) rfl dX12_thinging_94 ?_
    refine b_bnd (fun M94 => ?_)
    refine b_aload_n hO dX12_thinging_95 1 rfl rfl ?_
    refine b_get hO flX12_36 kLY_0 (v := .int (gI _ 8)) rfl dX12_thinging_96 ?_
    refine b_if_ne hO dX12_thinging_99 (tgt := 115) (by decide) ?_ ?_
    · exact b_vret hO dX12_thinging_115
    · refine b_aload_n hO dX12_thinging_102 1 rfl rfl ?_
      refine b_get hO flX12_54 kLY_0 (v := .ref (ad 2)) rfl dX12_thinging_103 ?_
      refine b_aload_n hO dX12_thinging_106 1 rfl rfl ?_
      refine b_get hO flX12_115 kLY_0 (v := .int (gI _ 34)) rfl dX12_thinging_107 ?_
      refine b_dup2 hO dX12_thinging_110 rfl rfl ?_
      refine b_iald hO kLY_2 (n := 2) rfl dX12_thinging_111 ?_
      refine b_iconst hO dX12_thinging_112 ic_i_1 ?_
      refine b_iadd hO dX12_thinging_113 ?_
      refine b_iast hO kLY_2 (n := 2) rfl dX12_thinging_114 ?_
      exact b_vret hO dX12_thinging_115
  · exact b_vret hO dX12_thinging_26
theorem tfX12_thinging (n0 : Nat) (hO : OKc p (rmL 4) s m args meth c LY D cy ad cX12_thinging RX12 2 4 none) (M : Mem) : BL p l e (rmL 4) s m args below meth c LY D cy ad 2 (QV LY D cy ad) 0 [(0, .ref (ad 0))] [] M (fX12_thinging n0 M) := by
  unfold fX12_thinging
  refine b_aload_n hO dX12_thinging_0 0 rfl rfl ?_
  refine b_aload_n hO dX12_thinging_1 0 rfl rfl ?_
  refine b_get hO flX12_54 kLY_0 (v := .ref (ad 2)) rfl dX12_thinging_2 ?_
  refine b_aload_n hO dX12_thinging_5 0 rfl rfl ?_
  refine b_get hO flX12_115 kLY_0 (v := .int (gI _ 34)) rfl dX12_thinging_6 ?_
  refine b_iald hO kLY_2 (n := 2) rfl dX12_thinging_9 ?_
  refine b_bipush hO dX12_thinging_10 ic_b_6 ?_
  refine b_icmp_ne hO dX12_thinging_12 (tgt := 19) (by decide) ?_ ?_
  · refine b_iconst hO dX12_thinging_19 ic_i_0 ?_
    exact tfX12_thinging_20 n0 hO _ _
  · refine b_iconst hO dX12_thinging_15 ic_i_1 ?_
    refine b_goto hO dX12_thinging_16 (tgt := 20) (by decide) ?_
    exact tfX12_thinging_20 n0 hO _ _
theorem ctX12_thinging (n0 : Nat) (hI : Inj LY ad) (M : Mem) : CT l LY D cy ad yX12_thinging cX12_thinging 2 none 4 (QV LY D cy ad) [.ref (ad 0)] M (fX12_thinging n0 M) :=
  CT.mk LYok hI (by decide) (Nat.le_of_ble_eq_true rfl) (fun hO => tfX12_thinging n0 hO M)
/-! X12_cornering -/
def fX12_cornering_19 (n0 : Nat) (u1 : Int32) (M : Mem) : Option (Mem) :=
  (fX12_counts n0 u1 M).bind fun z19 =>
  if z19.1 = 0 then
    some z19.2
  else
    if oob (gI z19.2 34) 2 then none else
    (fX12_fresh n0 z19.2).bind fun z47 =>
    if oob (((5 : Int32) * (gI z19.2 34)) + (gA z19.2 5 (Int32.toNatClampNeg (gI z19.2 34)))) 10 then none else
    bnd (sB z47.2 19 (Int32.toNatClampNeg (((5 : Int32) * (gI z19.2 34)) + (gA z19.2 5 (Int32.toNatClampNeg (gI z19.2 34))))) z47.1) fun M50 =>
    if oob (gI M50 34) 2 then none else
    if oob (((5 : Int32) * (gI M50 34)) + (gA M50 5 (Int32.toNatClampNeg (gI M50 34)))) 10 then none else
    bnd (sA M50 6 (Int32.toNatClampNeg (((5 : Int32) * (gI M50 34)) + (gA M50 5 (Int32.toNatClampNeg (gI M50 34))))) (-1 : Int32)) fun M72 =>
    if (gI M72 8) = 0 then
      if oob (gI M72 34) 2 then none else
      if oob (gI M72 34) 2 then none else
      some (sA M72 5 (Int32.toNatClampNeg (gI M72 34)) ((gA M72 5 (Int32.toNatClampNeg (gI M72 34))) + (1 : Int32)))
    else
      some M72
def fX12_cornering (n0 : Nat) (M : Mem) : Option (Mem) :=
  if oob (gI M 34) 2 then none else
  if (gA M 5 (Int32.toNatClampNeg (gI M 34))) = (5 : Int32) then
    fX12_cornering_19 n0 (1 : Int32) M
  else
    fX12_cornering_19 n0 (0 : Int32) M
theorem tfX12_cornering_19 (n0 : Nat) (hO : OKc p (rmL 4) s m args meth c LY D cy ad cX12_cornering RX12 1 4 none) (u1 : Int32) (M : Mem) : BL p l e (rmL 4) s m args below meth c LY D cy ad 1 (QV LY D cy ad) 19 [(0, .ref (ad 0))] [.int u1, .ref (ad 0)] M (fX12_cornering_19 n0 u1 M) := by
  unfold fX12_cornering_19
  refine b_callVI hO mdX12_counts mvX12_counts w1504 (ci := 12) rfl rfl (by decide) kLY_0 (As := [.int _]) (st := []) (ctX12_counts n0 hO.2.2.2.2.2.2.1 _ _) (Nat.le_of_ble_eq_true rfl) rfl rfl (Nat.le_of_ble_eq_true rfl) dX12_cornering_19 (fun z19 => ?_)
  refine b_if_ne hO dX12_cornering_22 (tgt := 26) (by decide) ?_ ?_
  · refine b_aload_n hO dX12_cornering_26 0 rfl rfl ?_
    refine b_get hO flX12_106 kLY_0 (v := .ref (ad 19)) rfl dX12_cornering_27 ?_
    refine b_iconst hO dX12_cornering_30 ic_i_5 ?_
    refine b_aload_n hO dX12_cornering_31 0 rfl rfl ?_
    refine b_get hO flX12_115 kLY_0 (v := .int (gI _ 34)) rfl dX12_cornering_32 ?_
    refine b_imul hO dX12_cornering_35 ?_
    refine b_aload_n hO dX12_cornering_36 0 rfl rfl ?_
    refine b_get hO flX12_63 kLY_0 (v := .ref (ad 5)) rfl dX12_cornering_37 ?_
    refine b_aload_n hO dX12_cornering_40 0 rfl rfl ?_
    refine b_get hO flX12_115 kLY_0 (v := .int (gI _ 34)) rfl dX12_cornering_41 ?_
    refine b_iald hO kLY_5 (n := 2) rfl dX12_cornering_44 ?_
    refine b_iadd hO dX12_cornering_45 ?_
    refine b_aload_n hO dX12_cornering_46 0 rfl rfl ?_
    refine b_callVL hO mdX12_fresh mvX12_fresh w1508 (ci := 12) rfl rfl (by decide) kLY_0 (As := []) (st := [.int _, .ref _]) (ctX12_fresh n0 hO.2.2.2.2.2.2.1 _) (Nat.le_of_ble_eq_true rfl) rfl rfl (Nat.le_of_ble_eq_true rfl) dX12_cornering_47 (fun z47 => ?_)
    refine b_last hO kLY_19 (n := 10) rfl dX12_cornering_50 ?_
    refine b_bnd (fun M50 => ?_)
    refine b_aload_n hO dX12_cornering_51 0 rfl rfl ?_
    refine b_get hO flX12_66 kLY_0 (v := .ref (ad 6)) rfl dX12_cornering_52 ?_
    refine b_iconst hO dX12_cornering_55 ic_i_5 ?_
    refine b_aload_n hO dX12_cornering_56 0 rfl rfl ?_
    refine b_get hO flX12_115 kLY_0 (v := .int (gI _ 34)) rfl dX12_cornering_57 ?_
    refine b_imul hO dX12_cornering_60 ?_
    refine b_aload_n hO dX12_cornering_61 0 rfl rfl ?_
    refine b_get hO flX12_63 kLY_0 (v := .ref (ad 5)) rfl dX12_cornering_62 ?_
    refine b_aload_n hO dX12_cornering_65 0 rfl rfl ?_
    refine b_get hO flX12_115 kLY_0 (v := .int (gI _ 34)) rfl dX12_cornering_66 ?_
    refine b_iald hO kLY_5 (n := 2) rfl dX12_cornering_69 ?_
    refine b_iadd hO dX12_cornering_70 ?_
    refine b_iconst hO dX12_cornering_71 ic_i_m1 ?_
    refine b_iast hO kLY_6 (n := 10) rfl dX12_cornering_72 ?_
    refine b_bnd (fun M72 => ?_)
    refine b_aload_n hO dX12_cornering_73 0 rfl rfl ?_
    refine b_get hO flX12_36 kLY_0 (v := .int (gI _ 8)) rfl dX12_cornering_74 ?_
    refine b_if_ne hO dX12_cornering_77 (tgt := 93) (by decide) ?_ ?_
    · exact b_vret hO dX12_cornering_93
    · refine b_aload_n hO dX12_cornering_80 0 rfl rfl ?_
      refine b_get hO flX12_63 kLY_0 (v := .ref (ad 5)) rfl dX12_cornering_81 ?_
      refine b_aload_n hO dX12_cornering_84 0 rfl rfl ?_
      refine b_get hO flX12_115 kLY_0 (v := .int (gI _ 34)) rfl dX12_cornering_85 ?_
      refine b_dup2 hO dX12_cornering_88 rfl rfl ?_
      refine b_iald hO kLY_5 (n := 2) rfl dX12_cornering_89 ?_
      refine b_iconst hO dX12_cornering_90 ic_i_1 ?_
      refine b_iadd hO dX12_cornering_91 ?_
      refine b_iast hO kLY_5 (n := 2) rfl dX12_cornering_92 ?_
      exact b_vret hO dX12_cornering_93
  · exact b_vret hO dX12_cornering_25
theorem tfX12_cornering (n0 : Nat) (hO : OKc p (rmL 4) s m args meth c LY D cy ad cX12_cornering RX12 1 4 none) (M : Mem) : BL p l e (rmL 4) s m args below meth c LY D cy ad 1 (QV LY D cy ad) 0 [(0, .ref (ad 0))] [] M (fX12_cornering n0 M) := by
  unfold fX12_cornering
  refine b_aload_n hO dX12_cornering_0 0 rfl rfl ?_
  refine b_aload_n hO dX12_cornering_1 0 rfl rfl ?_
  refine b_get hO flX12_63 kLY_0 (v := .ref (ad 5)) rfl dX12_cornering_2 ?_
  refine b_aload_n hO dX12_cornering_5 0 rfl rfl ?_
  refine b_get hO flX12_115 kLY_0 (v := .int (gI _ 34)) rfl dX12_cornering_6 ?_
  refine b_iald hO kLY_5 (n := 2) rfl dX12_cornering_9 ?_
  refine b_iconst hO dX12_cornering_10 ic_i_5 ?_
  refine b_icmp_ne hO dX12_cornering_11 (tgt := 18) (by decide) ?_ ?_
  · refine b_iconst hO dX12_cornering_18 ic_i_0 ?_
    exact tfX12_cornering_19 n0 hO _ _
  · refine b_iconst hO dX12_cornering_14 ic_i_1 ?_
    refine b_goto hO dX12_cornering_15 (tgt := 19) (by decide) ?_
    exact tfX12_cornering_19 n0 hO _ _
theorem ctX12_cornering (n0 : Nat) (hI : Inj LY ad) (M : Mem) : CT l LY D cy ad yX12_cornering cX12_cornering 1 none 4 (QV LY D cy ad) [.ref (ad 0)] M (fX12_cornering n0 M) :=
  CT.mk LYok hI (by decide) (Nat.le_of_ble_eq_true rfl) (fun hO => tfX12_cornering n0 hO M)
end
