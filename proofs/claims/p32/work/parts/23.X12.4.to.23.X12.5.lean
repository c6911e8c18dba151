section
section
variable {p : Program} {l : Launch} {e : Env} {s : State} {m : MethodId} {args : Array Value} {below : List Frame} {meth : Method} {c : Code} {D : va_G} {cy : Nat → ClassId} {ad : Nat → Nat} {dd : Nat}

/-! X12_two -/
def fX12_two (n0 : Nat) (x0 : Int32) (y1 : Int64) (y3 : Int64) (M : Mem) : Option (Int64 × Mem) :=
  if x0 = 31 then
    (fX12_within n0 (y1 + y3) M).bind fun z63 =>
    some (z63.1, z63.2)
  else
  if x0 = 32 then
    (fX12_within n0 (y1 - y3) M).bind fun z70 =>
    some (z70.1, z70.2)
  else
  if x0 = 33 then
    (fX12_within n0 (y1 * y3) M).bind fun z77 =>
    some (z77.1, z77.2)
  else
  if x0 = 34 then
    (fX12_floor n0 y1 y3 M).bind fun z83 =>
    (fX12_within n0 z83.1 z83.2).bind fun z86 =>
    some (z86.1, z86.2)
  else
  if x0 = 35 then
    if (lg_cmp y3 (0 : Int64)) = 0 then
      some ((0 : Int64), M)
    else
      (fX12_floor n0 y1 y3 M).bind fun z104 =>
      (fX12_within n0 (y1 - (y3 * z104.1)) z104.2).bind fun z109 =>
      some (z109.1, z109.2)
  else
  if x0 = 36 then
    if 0 ≤ (lg_cmp y1 y3) then
      some (y3, M)
    else
      some (y1, M)
  else
  if x0 = 37 then
    if (lg_cmp y1 y3) ≤ 0 then
      some (y3, M)
    else
      some (y1, M)
  else
  if x0 = 38 then
    if 0 ≤ (lg_cmp y1 y3) then
      some ((0 : Int64), M)
    else
      some ((1 : Int64), M)
  else
  if x0 = 39 then
    if (lg_cmp y1 y3) ≤ 0 then
      some ((0 : Int64), M)
    else
      some ((1 : Int64), M)
  else
  if x0 = 40 then
    if (lg_cmp y1 y3) = 0 then
      some ((1 : Int64), M)
    else
      some ((0 : Int64), M)
  else
  if x0 = 41 then
    some ((y1 &&& y3), M)
  else
  some ((y1 ||| y3), M)
theorem tfX12_two (n0 : Nat) (hO : OKc p (rmL 2) s m args meth c LY D cy ad cX12_two RX12 5 2 (some .long)) (x0 : Int32) (y1 : Int64) (y3 : Int64) (M : Mem) : BL p l e (rmL 2) s m args below meth c LY D cy ad 5 (QL LY D cy ad) 0 [(0, .int x0), (1, .long y1), (3, .long y3)] [] M (fX12_two n0 x0 y1 y3 M) := by
  unfold fX12_two
  refine b_iload_n hO dX12_two_0 0 rfl rfl ?_
  refine b_tabIn hO dX12_two_1 (v := 31) (z := 31) (tgt := 60) (by decide) (by decide) (by decide) rfl (by decide) ?_ (fun hn0 => ?_)
  · refine b_lload_n hO dX12_two_60 1 rfl rfl ?_
    refine b_lload_n hO dX12_two_61 2 rfl rfl ?_
    refine b_ladd hO dX12_two_62 ?_
    refine b_callSL hO mdX12_within w1677 w1676 (As := [.long _]) (st := []) (ctX12_within n0 hO.2.2.2.2.2.2.1 _ _) (Nat.le_of_ble_eq_true rfl) rfl rfl (Nat.le_of_ble_eq_true rfl) dX12_two_63 (fun z63 => ?_)
    exact b_lret hO dX12_two_66
  refine b_tabIn hO dX12_two_1 (v := 32) (z := 32) (tgt := 67) (by decide) (by decide) (by decide) rfl (by decide) ?_ (fun hn1 => ?_)
  · refine b_lload_n hO dX12_two_67 1 rfl rfl ?_
    refine b_lload_n hO dX12_two_68 2 rfl rfl ?_
    refine b_lsub hO dX12_two_69 ?_
    refine b_callSL hO mdX12_within w1677 w1676 (As := [.long _]) (st := []) (ctX12_within n0 hO.2.2.2.2.2.2.1 _ _) (Nat.le_of_ble_eq_true rfl) rfl rfl (Nat.le_of_ble_eq_true rfl) dX12_two_70 (fun z70 => ?_)
    exact b_lret hO dX12_two_73
  refine b_tabIn hO dX12_two_1 (v := 33) (z := 33) (tgt := 74) (by decide) (by decide) (by decide) rfl (by decide) ?_ (fun hn2 => ?_)
  · refine b_lload_n hO dX12_two_74 1 rfl rfl ?_
    refine b_lload_n hO dX12_two_75 2 rfl rfl ?_
    refine b_lmul hO dX12_two_76 ?_
    refine b_callSL hO mdX12_within w1677 w1676 (As := [.long _]) (st := []) (ctX12_within n0 hO.2.2.2.2.2.2.1 _ _) (Nat.le_of_ble_eq_true rfl) rfl rfl (Nat.le_of_ble_eq_true rfl) dX12_two_77 (fun z77 => ?_)
    exact b_lret hO dX12_two_80
  refine b_tabIn hO dX12_two_1 (v := 34) (z := 34) (tgt := 81) (by decide) (by decide) (by decide) rfl (by decide) ?_ (fun hn3 => ?_)
  · refine b_lload_n hO dX12_two_81 1 rfl rfl ?_
    refine b_lload_n hO dX12_two_82 2 rfl rfl ?_
    refine b_callSL hO mdX12_floor w1682 w1681 (As := [.long _, .long _]) (st := []) (ctX12_floor n0 hO.2.2.2.2.2.2.1 _ _ _) (Nat.le_of_ble_eq_true rfl) rfl rfl (Nat.le_of_ble_eq_true rfl) dX12_two_83 (fun z83 => ?_)
    refine b_callSL hO mdX12_within w1677 w1676 (As := [.long _]) (st := []) (ctX12_within n0 hO.2.2.2.2.2.2.1 _ _) (Nat.le_of_ble_eq_true rfl) rfl rfl (Nat.le_of_ble_eq_true rfl) dX12_two_86 (fun z86 => ?_)
    exact b_lret hO dX12_two_89
  refine b_tabIn hO dX12_two_1 (v := 35) (z := 35) (tgt := 90) (by decide) (by decide) (by decide) rfl (by decide) ?_ (fun hn4 => ?_)
  · refine b_lload_n hO dX12_two_90 2 rfl rfl ?_
    refine b_lconst hO dX12_two_91 (v := 0) rfl ?_
    refine b_lcmp hO dX12_two_92 ?_
    refine b_if_ne hO dX12_two_93 (tgt := 100) (by decide) ?_ ?_
    · refine b_lload_n hO dX12_two_100 1 rfl rfl ?_
      refine b_lload_n hO dX12_two_101 2 rfl rfl ?_
      refine b_lload_n hO dX12_two_102 1 rfl rfl ?_
      refine b_lload_n hO dX12_two_103 2 rfl rfl ?_
      refine b_callSL hO mdX12_floor w1682 w1681 (As := [.long _, .long _]) (st := [.long _, .long _]) (ctX12_floor n0 hO.2.2.2.2.2.2.1 _ _ _) (Nat.le_of_ble_eq_true rfl) rfl rfl (Nat.le_of_ble_eq_true rfl) dX12_two_104 (fun z104 => ?_)
      refine b_lmul hO dX12_two_107 ?_
      refine b_lsub hO dX12_two_108 ?_
      refine b_callSL hO mdX12_within w1677 w1676 (As := [.long _]) (st := []) (ctX12_within n0 hO.2.2.2.2.2.2.1 _ _) (Nat.le_of_ble_eq_true rfl) rfl rfl (Nat.le_of_ble_eq_true rfl) dX12_two_109 (fun z109 => ?_)
      exact b_lret hO dX12_two_112
    · refine b_lconst hO dX12_two_96 (v := 0) rfl ?_
      refine b_goto hO dX12_two_97 (tgt := 112) (by decide) ?_
      exact b_lret hO dX12_two_112
  refine b_tabIn hO dX12_two_1 (v := 36) (z := 36) (tgt := 113) (by decide) (by decide) (by decide) rfl (by decide) ?_ (fun hn5 => ?_)
  · refine b_lload_n hO dX12_two_113 1 rfl rfl ?_
    refine b_lload_n hO dX12_two_114 2 rfl rfl ?_
    refine b_lcmp hO dX12_two_115 ?_
    refine b_if_ge hO dX12_two_116 (tgt := 123) (by decide) ?_ ?_
    · refine b_lload_n hO dX12_two_123 2 rfl rfl ?_
      exact b_lret hO dX12_two_124
    · refine b_lload_n hO dX12_two_119 1 rfl rfl ?_
      refine b_goto hO dX12_two_120 (tgt := 124) (by decide) ?_
      exact b_lret hO dX12_two_124
  refine b_tabIn hO dX12_two_1 (v := 37) (z := 37) (tgt := 125) (by decide) (by decide) (by decide) rfl (by decide) ?_ (fun hn6 => ?_)
  · refine b_lload_n hO dX12_two_125 1 rfl rfl ?_
    refine b_lload_n hO dX12_two_126 2 rfl rfl ?_
    refine b_lcmp hO dX12_two_127 ?_
    refine b_if_le hO dX12_two_128 (tgt := 135) (by decide) ?_ ?_
    · refine b_lload_n hO dX12_two_135 2 rfl rfl ?_
      exact b_lret hO dX12_two_136
    · refine b_lload_n hO dX12_two_131 1 rfl rfl ?_
      refine b_goto hO dX12_two_132 (tgt := 136) (by decide) ?_
      exact b_lret hO dX12_two_136
  refine b_tabIn hO dX12_two_1 (v := 38) (z := 38) (tgt := 137) (by decide) (by decide) (by decide) rfl (by decide) ?_ (fun hn7 => ?_)
  · refine b_lload_n hO dX12_two_137 1 rfl rfl ?_
    refine b_lload_n hO dX12_two_138 2 rfl rfl ?_
    refine b_lcmp hO dX12_two_139 ?_
    refine b_if_ge hO dX12_two_140 (tgt := 147) (by decide) ?_ ?_
    · refine b_lconst hO dX12_two_147 (v := 0) rfl ?_
      exact b_lret hO dX12_two_148
    · refine b_lconst hO dX12_two_143 (v := 1) rfl ?_
      refine b_goto hO dX12_two_144 (tgt := 148) (by decide) ?_
      exact b_lret hO dX12_two_148
  refine b_tabIn hO dX12_two_1 (v := 39) (z := 39) (tgt := 149) (by decide) (by decide) (by decide) rfl (by decide) ?_ (fun hn8 => ?_)
  · refine b_lload_n hO dX12_two_149 1 rfl rfl ?_
    refine b_lload_n hO dX12_two_150 2 rfl rfl ?_
    refine b_lcmp hO dX12_two_151 ?_
    refine b_if_le hO dX12_two_152 (tgt := 159) (by decide) ?_ ?_
    · refine b_lconst hO dX12_two_159 (v := 0) rfl ?_
      exact b_lret hO dX12_two_160
    · refine b_lconst hO dX12_two_155 (v := 1) rfl ?_
      refine b_goto hO dX12_two_156 (tgt := 160) (by decide) ?_
      exact b_lret hO dX12_two_160
  refine b_tabIn hO dX12_two_1 (v := 40) (z := 40) (tgt := 161) (by decide) (by decide) (by decide) rfl (by decide) ?_ (fun hn9 => ?_)
  · refine b_lload_n hO dX12_two_161 1 rfl rfl ?_
    refine b_lload_n hO dX12_two_162 2 rfl rfl ?_
    refine b_lcmp hO dX12_two_163 ?_
    refine b_if_ne hO dX12_two_164 (tgt := 171) (by decide) ?_ ?_
    · refine b_lconst hO dX12_two_171 (v := 0) rfl ?_
      exact b_lret hO dX12_two_172
    · refine b_lconst hO dX12_two_167 (v := 1) rfl ?_
      refine b_goto hO dX12_two_168 (tgt := 172) (by decide) ?_
      exact b_lret hO dX12_two_172
  refine b_tabIn hO dX12_two_1 (v := 41) (z := 41) (tgt := 173) (by decide) (by decide) (by decide) rfl (by decide) ?_ (fun hn10 => ?_)
  · refine b_lload_n hO dX12_two_173 1 rfl rfl ?_
    refine b_lload_n hO dX12_two_174 2 rfl rfl ?_
    refine b_land hO dX12_two_175 ?_
    exact b_lret hO dX12_two_176
  refine b_tabOut hO dX12_two_1 (tgt := 177) (by omega) (by decide) ?_
  refine b_lload_n hO dX12_two_177 1 rfl rfl ?_
  refine b_lload_n hO dX12_two_178 2 rfl rfl ?_
  refine b_lor hO dX12_two_179 ?_
  exact b_lret hO dX12_two_180
theorem ctX12_two (n0 : Nat) (hI : Inj LY ad) (x0 : Int32) (y1 : Int64) (y3 : Int64) (M : Mem) : CT l LY D cy ad yX12_two cX12_two 5 (some .long) 2 (QL LY D cy ad) [.int x0, .long y1, .long y3] M (fX12_two n0 x0 y1 y3 M) :=
  CT.mk LYok hI (by decide) (Nat.le_of_ble_eq_true rfl) (fun hO => tfX12_two n0 hO x0 y1 y3 M)
/-! X12_reckons -/
def fX12_reckons_221 (n0 : Nat) (k25 : Int32 → Int32 → Int32 → Mem → Option (Int64 × Mem)) (x1 : Int32) (x2 : Int32) (x3 : Int32) (M : Mem) : Option (Int64 × Mem) :=
  k25 x1 x2 (x3 + (1 : Int32)) M
def fX12_reckons_105 (n0 : Nat) (k25 : Int32 → Int32 → Int32 → Mem → Option (Int64 × Mem)) (x1 : Int32) (x2 : Int32) (x3 : Int32) (u1 : Int32) (v2 : Int64) (M : Mem) : Option (Int64 × Mem) :=
  if oob u1 500 then none else
  bnd (sB M 34 (Int32.toNatClampNeg u1) v2) fun M105 =>
  fX12_reckons_221 n0 k25 x1 (x2 + (1 : Int32)) x3 M105
def fX12_reckons_187 (n0 : Nat) (k25 : Int32 → Int32 → Int32 → Mem → Option (Int64 × Mem)) (x1 : Int32) (x2 : Int32) (x3 : Int32) (u1 : Int32) (v2 : Int64) (M : Mem) : Option (Int64 × Mem) :=
  if oob u1 500 then none else
  fX12_reckons_221 n0 k25 x1 x2 x3 (sB M 34 (Int32.toNatClampNeg u1) v2)
def bX12_reckons_25 (n0 : Nat) (k25 : Int32 → Int32 → Int32 → Mem → Option (Int64 × Mem)) (x1 : Int32) (x2 : Int32) (x3 : Int32) (M : Mem) : Option (Int64 × Mem) :=
  if oob (((2 : Int32) * (gI M 13)) + x1) 4 then none else
  if (((1600 : Int32) * (gI M 13)) + (gA M 15 (Int32.toNatClampNeg (((2 : Int32) * (gI M 13)) + x1)))) ≤ x3 then
    if oob (0 : Int32) 500 then none else
    some ((gB M 34 (Int32.toNatClampNeg (0 : Int32))), M)
  else
    if oob x3 3200 then none else
    bnd (gA M 16 (Int32.toNatClampNeg x3)) fun x4_57 =>
    if (30 : Int32) < x4_57 then
      if x4_57 = (43 : Int32) then
        if oob (x2 - (1 : Int32)) 500 then none else
        if oob (x2 - (1 : Int32)) 500 then none else
        fX12_reckons_221 n0 k25 x1 x2 x3 (sB M 34 (Int32.toNatClampNeg (x2 - (1 : Int32))) ((1 : Int64) - (gB M 34 (Int32.toNatClampNeg (x2 - (1 : Int32))))))
      else
        if x4_57 = (44 : Int32) then
          if oob ((x2 + (-2 : Int32)) - (1 : Int32)) 500 then none else
          if (lg_cmp (gB M 34 (Int32.toNatClampNeg ((x2 + (-2 : Int32)) - (1 : Int32)))) (1 : Int64)) = 0 then
            if oob (x2 + (-2 : Int32)) 500 then none else
            fX12_reckons_187 n0 k25 x1 (x2 + (-2 : Int32)) x3 ((x2 + (-2 : Int32)) - (1 : Int32)) (gB M 34 (Int32.toNatClampNeg (x2 + (-2 : Int32)))) M
          else
            if oob ((x2 + (-2 : Int32)) + (1 : Int32)) 500 then none else
            fX12_reckons_187 n0 k25 x1 (x2 + (-2 : Int32)) x3 ((x2 + (-2 : Int32)) - (1 : Int32)) (gB M 34 (Int32.toNatClampNeg ((x2 + (-2 : Int32)) + (1 : Int32)))) M
        else
          if oob ((x2 + (-1 : Int32)) - (1 : Int32)) 500 then none else
          if oob (x2 + (-1 : Int32)) 500 then none else
          (fX12_two n0 x4_57 (gB M 34 (Int32.toNatClampNeg ((x2 + (-1 : Int32)) - (1 : Int32)))) (gB M 34 (Int32.toNatClampNeg (x2 + (-1 : Int32)))) M).bind fun z217 =>
          if oob ((x2 + (-1 : Int32)) - (1 : Int32)) 500 then none else
          fX12_reckons_221 n0 k25 x1 (x2 + (-1 : Int32)) x3 (sB z217.2 34 (Int32.toNatClampNeg ((x2 + (-1 : Int32)) - (1 : Int32))) z217.1)
    else
      if x4_57 = 0 then
        if oob x3 3200 then none else
        fX12_reckons_105 n0 k25 x1 x2 x3 x2 ((gA M 17 (Int32.toNatClampNeg x3))).toInt64 M
      else
        if x4_57 = (30 : Int32) then
          fX12_reckons_105 n0 k25 x1 x2 x3 x2 (1 : Int64) M
        else
          if oob x4_57 10 then none else
          fX12_reckons_105 n0 k25 x1 x2 x3 x2 ((gA M 35 (Int32.toNatClampNeg x4_57))).toInt64 M
def fX12_reckons_25 (n0 : Nat) : Int32 → Int32 → Int32 → Mem → Option (Int64 × Mem) := loopN (bX12_reckons_25 n0) (fun _ _ _ _ => none) n0
def fX12_reckons (n0 : Nat) (x1 : Int32) (M : Mem) : Option (Int64 × Mem) :=
  if oob (((2 : Int32) * (gI M 13)) + x1) 4 then none else
  bnd (((1600 : Int32) * (gI M 13)) + (gA M 14 (Int32.toNatClampNeg (((2 : Int32) * (gI M 13)) + x1)))) fun x3_24 =>
  fX12_reckons_25 n0 x1 (0 : Int32) x3_24 M
theorem tfX12_reckons_221 (n0 : Nat) (hO : OKc p (rmL 3) s m args meth c LY D cy ad cX12_reckons RX12 5 3 (some .long)) (k25 : Int32 → Int32 → Int32 → Mem → Option (Int64 × Mem)) (hk25 : ∀ (x1 : Int32) (x2 : Int32) (x3 : Int32) (M : Mem), BL p l e (rmL 3) s m args below meth c LY D cy ad 5 (QL LY D cy ad) 25 [(0, .ref (ad 0)), (1, .int x1), (2, .int x2), (3, .int x3)] [] M (k25 x1 x2 x3 M)) (x1 : Int32) (x2 : Int32) (x3 : Int32) (M : Mem) : BL p l e (rmL 3) s m args below meth c LY D cy ad 5 (QL LY D cy ad) 221 [(0, .ref (ad 0)), (1, .int x1), (2, .int x2), (3, .int x3)] [] M (fX12_reckons_221 n0 k25 x1 x2 x3 M) := by
  unfold fX12_reckons_221
  refine b_iinc hO dX12_reckons_221 3 rfl ic_i_1 (by decide) (lv' := [(3, .int _), (0, .ref _), (1, .int _), (2, .int _)]) rfl ?_
  refine b_goto hO dX12_reckons_224 (tgt := 25) (by decide) ?_
  refine b_sub [1, 2, 3, 0] rfl ?_
  exact hk25 _ _ _ _
theorem tfX12_reckons_105 (n0 : Nat) (hO : OKc p (rmL 3) s m args meth c LY D cy ad cX12_reckons RX12 5 3 (some .long)) (k25 : Int32 → Int32 → Int32 → Mem → Option (Int64 × Mem)) (hk25 : ∀ (x1 : Int32) (x2 : Int32) (x3 : Int32) (M : Mem), BL p l e (rmL 3) s m args below meth c LY D cy ad 5 (QL LY D cy ad) 25 [(0, .ref (ad 0)), (1, .int x1), (2, .int x2), (3, .int x3)] [] M (k25 x1 x2 x3 M)) (x1 : Int32) (x2 : Int32) (x3 : Int32) (u1 : Int32) (v2 : Int64) (M : Mem) : BL p l e (rmL 3) s m args below meth c LY D cy ad 5 (QL LY D cy ad) 105 [(0, .ref (ad 0)), (1, .int x1), (2, .int x2), (3, .int x3)] [.long v2, .int u1, .ref (ad 34)] M (fX12_reckons_105 n0 k25 x1 x2 x3 u1 v2 M) := by
  unfold fX12_reckons_105
  refine b_last hO kLY_34 (n := 500) rfl dX12_reckons_105 ?_
  refine b_bnd (fun M105 => ?_)
  refine b_iinc hO dX12_reckons_106 2 rfl ic_i_1 (by decide) (lv' := [(2, .int _), (0, .ref _), (1, .int _), (3, .int _)]) rfl ?_
  refine b_goto hO dX12_reckons_109 (tgt := 221) (by decide) ?_
  refine b_sub [1, 2, 0, 3] rfl ?_
  exact tfX12_reckons_221 n0 hO k25 hk25 _ _ _ _
theorem tfX12_reckons_187 (n0 : Nat) (hO : OKc p (rmL 3) s m args meth c LY D cy ad cX12_reckons RX12 5 3 (some .long)) (k25 : Int32 → Int32 → Int32 → Mem → Option (Int64 × Mem)) (hk25 : ∀ (x1 : Int32) (x2 : Int32) (x3 : Int32) (M : Mem), BL p l e (rmL 3) s m args below meth c LY D cy ad 5 (QL LY D cy ad) 25 [(0, .ref (ad 0)), (1, .int x1), (2, .int x2), (3, .int x3)] [] M (k25 x1 x2 x3 M)) (x1 : Int32) (x2 : Int32) (x3 : Int32) (u1 : Int32) (v2 : Int64) (M : Mem) : BL p l e (rmL 3) s m args below meth c LY D cy ad 5 (QL LY D cy ad) 187 [(0, .ref (ad 0)), (1, .int x1), (2, .int x2), (3, .int x3)] [.long v2, .int u1, .ref (ad 34)] M (fX12_reckons_187 n0 k25 x1 x2 x3 u1 v2 M) := by
  unfold fX12_reckons_187
  refine b_last hO kLY_34 (n := 500) rfl dX12_reckons_187 ?_
  refine b_goto hO dX12_reckons_188 (tgt := 221) (by decide) ?_
  exact tfX12_reckons_221 n0 hO k25 hk25 _ _ _ _
theorem tbX12_reckons_25 (n0 : Nat) (hO : OKc p (rmL 3) s m args meth c LY D cy ad cX12_reckons RX12 5 3 (some .long)) (k25 : Int32 → Int32 → Int32 → Mem → Option (Int64 × Mem)) (hk25 : ∀ (x1 : Int32) (x2 : Int32) (x3 : Int32) (M : Mem), BL p l e (rmL 3) s m args below meth c LY D cy ad 5 (QL LY D cy ad) 25 [(0, .ref (ad 0)), (1, .int x1), (2, .int x2), (3, .int x3)] [] M (k25 x1 x2 x3 M)) (x1 : Int32) (x2 : Int32) (x3 : Int32) (M : Mem) : BL p l e (rmL 3) s m args below meth c LY D cy ad 5 (QL LY D cy ad) 25 [(0, .ref (ad 0)), (1, .int x1), (2, .int x2), (3, .int x3)] [] M (bX12_reckons_25 n0 k25 x1 x2 x3 M) := by
  unfold bX12_reckons_25
  refine b_iload_n hO dX12_reckons_25 3 rfl rfl ?_
  refine b_sipush hO dX12_reckons_26 ic_s_1600 ?_
  refine b_aload_n hO dX12_reckons_29 0 rfl rfl ?_
  refine b_get hO flX12_51 kLY_0 (v := .int (gI _ 13)) rfl dX12_reckons_30 ?_
  refine b_imul hO dX12_reckons_33 ?_
  refine b_aload_n hO dX12_reckons_34 0 rfl rfl ?_
  refine b_get hO flX12_93 kLY_0 (v := .ref (ad 15)) rfl dX12_reckons_35 ?_
  refine b_iconst hO dX12_reckons_38 ic_i_2 ?_
  refine b_aload_n hO dX12_reckons_39 0 rfl rfl ?_
  refine b_get hO flX12_51 kLY_0 (v := .int (gI _ 13)) rfl dX12_reckons_40 ?_
  refine b_imul hO dX12_reckons_43 ?_
  refine b_iload_n hO dX12_reckons_44 1 rfl rfl ?_
  refine b_iadd hO dX12_reckons_45 ?_
  refine b_iald hO kLY_15 (n := 4) rfl dX12_reckons_46 ?_
  refine b_iadd hO dX12_reckons_47 ?_
  refine b_icmp_ge hO dX12_reckons_48 (tgt := 227) (by decide) ?_ ?_
  · refine b_aload_n hO dX12_reckons_227 0 rfl rfl ?_
    refine b_get hO flX12_183 kLY_0 (v := .ref (ad 34)) rfl dX12_reckons_228 ?_
    refine b_iconst hO dX12_reckons_231 ic_i_0 ?_
    refine b_lald hO kLY_34 (n := 500) rfl dX12_reckons_232 ?_
    exact b_lret hO dX12_reckons_233
  · refine b_aload_n hO dX12_reckons_51 0 rfl rfl ?_
    refine b_get hO flX12_96 kLY_0 (v := .ref (ad 16)) rfl dX12_reckons_52 ?_
    refine b_iload_n hO dX12_reckons_55 3 rfl rfl ?_
    refine b_iald hO kLY_16 (n := 3200) rfl dX12_reckons_56 ?_
    refine b_topI (fun x4_57 => ?_)
    refine b_istore hO dX12_reckons_57 (by decide) (lv' := [(4, .int _), (0, .ref _), (1, .int _), (2, .int _), (3, .int _)]) rfl ?_
    refine b_iload hO dX12_reckons_59 0 rfl ?_
    refine b_bipush hO dX12_reckons_61 ic_b_30 ?_
    refine b_icmp_gt hO dX12_reckons_63 (tgt := 112) (by decide) ?_ ?_
    · refine b_iload hO dX12_reckons_112 0 rfl ?_
      refine b_bipush hO dX12_reckons_114 ic_b_43 ?_
      refine b_icmp_ne hO dX12_reckons_116 (tgt := 140) (by decide) ?_ ?_
      · refine b_iload hO dX12_reckons_140 0 rfl ?_
        refine b_bipush hO dX12_reckons_142 ic_b_44 ?_
        refine b_icmp_ne hO dX12_reckons_144 (tgt := 191) (by decide) ?_ ?_
        · refine b_iinc hO dX12_reckons_191 3 rfl ic_i_m1 (by decide) (lv' := [(2, .int _), (4, .int _), (0, .ref _), (1, .int _), (3, .int _)]) rfl ?_
          refine b_aload_n hO dX12_reckons_194 2 rfl rfl ?_
          refine b_get hO flX12_183 kLY_0 (v := .ref (ad 34)) rfl dX12_reckons_195 ?_
          refine b_iload_n hO dX12_reckons_198 0 rfl rfl ?_
          refine b_iconst hO dX12_reckons_199 ic_i_1 ?_
          refine b_isub hO dX12_reckons_200 ?_
          refine b_iload hO dX12_reckons_201 1 rfl ?_
          refine b_aload_n hO dX12_reckons_203 2 rfl rfl ?_
          refine b_get hO flX12_183 kLY_0 (v := .ref (ad 34)) rfl dX12_reckons_204 ?_
          refine b_iload_n hO dX12_reckons_207 0 rfl rfl ?_
          refine b_iconst hO dX12_reckons_208 ic_i_1 ?_
          refine b_isub hO dX12_reckons_209 ?_
          refine b_lald hO kLY_34 (n := 500) rfl dX12_reckons_210 ?_
          refine b_aload_n hO dX12_reckons_211 2 rfl rfl ?_
          refine b_get hO flX12_183 kLY_0 (v := .ref (ad 34)) rfl dX12_reckons_212 ?_
          refine b_iload_n hO dX12_reckons_215 0 rfl rfl ?_
          refine b_lald hO kLY_34 (n := 500) rfl dX12_reckons_216 ?_
          refine b_callSL hO mdX12_two w1674 w1673 (As := [.int _, .long _, .long _]) (st := [.int _, .ref _]) (ctX12_two n0 hO.2.2.2.2.2.2.1 _ _ _ _) (Nat.le_of_ble_eq_true rfl) rfl rfl (Nat.le_of_ble_eq_true rfl) dX12_reckons_217 (fun z217 => ?_)
          refine b_last hO kLY_34 (n := 500) rfl dX12_reckons_220 ?_
          refine b_sub [2, 3, 0, 4] rfl ?_
          exact tfX12_reckons_221 n0 hO k25 hk25 _ _ _ _
        · refine b_iinc hO dX12_reckons_147 3 rfl ic_i_m2 (by decide) (lv' := [(2, .int _), (4, .int _), (0, .ref _), (1, .int _), (3, .int _)]) rfl ?_
          refine b_aload_n hO dX12_reckons_150 2 rfl rfl ?_
          refine b_get hO flX12_183 kLY_0 (v := .ref (ad 34)) rfl dX12_reckons_151 ?_
          refine b_iload_n hO dX12_reckons_154 0 rfl rfl ?_
          refine b_iconst hO dX12_reckons_155 ic_i_1 ?_
          refine b_isub hO dX12_reckons_156 ?_
          refine b_aload_n hO dX12_reckons_157 2 rfl rfl ?_
          refine b_get hO flX12_183 kLY_0 (v := .ref (ad 34)) rfl dX12_reckons_158 ?_
          refine b_iload_n hO dX12_reckons_161 0 rfl rfl ?_
          refine b_iconst hO dX12_reckons_162 ic_i_1 ?_
          refine b_isub hO dX12_reckons_163 ?_
          refine b_lald hO kLY_34 (n := 500) rfl dX12_reckons_164 ?_
          refine b_lconst hO dX12_reckons_165 (v := 1) rfl ?_
          refine b_lcmp hO dX12_reckons_166 ?_
          refine b_if_ne hO dX12_reckons_167 (tgt := 179) (by decide) ?_ ?_
          · refine b_aload_n hO dX12_reckons_179 2 rfl rfl ?_
            refine b_get hO flX12_183 kLY_0 (v := .ref (ad 34)) rfl dX12_reckons_180 ?_
            refine b_iload_n hO dX12_reckons_183 0 rfl rfl ?_
            refine b_iconst hO dX12_reckons_184 ic_i_1 ?_
            refine b_iadd hO dX12_reckons_185 ?_
            refine b_lald hO kLY_34 (n := 500) rfl dX12_reckons_186 ?_
            refine b_sub [2, 3, 0, 4] rfl ?_
            exact tfX12_reckons_187 n0 hO k25 hk25 _ _ _ _ _ _
          · refine b_aload_n hO dX12_reckons_170 2 rfl rfl ?_
            refine b_get hO flX12_183 kLY_0 (v := .ref (ad 34)) rfl dX12_reckons_171 ?_
            refine b_iload_n hO dX12_reckons_174 0 rfl rfl ?_
            refine b_lald hO kLY_34 (n := 500) rfl dX12_reckons_175 ?_
            refine b_goto hO dX12_reckons_176 (tgt := 187) (by decide) ?_
            refine b_sub [2, 3, 0, 4] rfl ?_
            exact tfX12_reckons_187 n0 hO k25 hk25 _ _ _ _ _ _
      · refine b_aload_n hO dX12_reckons_119 1 rfl rfl ?_
        refine b_get hO flX12_183 kLY_0 (v := .ref (ad 34)) rfl dX12_reckons_120 ?_
        refine b_iload_n hO dX12_reckons_123 3 rfl rfl ?_
        refine b_iconst hO dX12_reckons_124 ic_i_1 ?_
        refine b_isub hO dX12_reckons_125 ?_
        refine b_lconst hO dX12_reckons_126 (v := 1) rfl ?_
        refine b_aload_n hO dX12_reckons_127 1 rfl rfl ?_
        refine b_get hO flX12_183 kLY_0 (v := .ref (ad 34)) rfl dX12_reckons_128 ?_
        refine b_iload_n hO dX12_reckons_131 3 rfl rfl ?_
        refine b_iconst hO dX12_reckons_132 ic_i_1 ?_
        refine b_isub hO dX12_reckons_133 ?_
        refine b_lald hO kLY_34 (n := 500) rfl dX12_reckons_134 ?_
        refine b_lsub hO dX12_reckons_135 ?_
        refine b_last hO kLY_34 (n := 500) rfl dX12_reckons_136 ?_
        refine b_goto hO dX12_reckons_137 (tgt := 221) (by decide) ?_
        refine b_sub [1, 2, 3, 4] rfl ?_
        exact tfX12_reckons_221 n0 hO k25 hk25 _ _ _ _
    · refine b_aload_n hO dX12_reckons_66 1 rfl rfl ?_
      refine b_get hO flX12_183 kLY_0 (v := .ref (ad 34)) rfl dX12_reckons_67 ?_
      refine b_iload_n hO dX12_reckons_70 3 rfl rfl ?_
      refine b_iload hO dX12_reckons_71 0 rfl ?_
      refine b_if_ne hO dX12_reckons_73 (tgt := 86) (by decide) ?_ ?_
      · refine b_iload hO dX12_reckons_86 0 rfl ?_
        refine b_bipush hO dX12_reckons_88 ic_b_30 ?_
        refine b_icmp_ne hO dX12_reckons_90 (tgt := 97) (by decide) ?_ ?_
        · refine b_aload_n hO dX12_reckons_97 1 rfl rfl ?_
          refine b_get hO flX12_186 kLY_0 (v := .ref (ad 35)) rfl dX12_reckons_98 ?_
          refine b_iload hO dX12_reckons_101 0 rfl ?_
          refine b_iald hO kLY_35 (n := 10) rfl dX12_reckons_103 ?_
          refine b_i2l hO dX12_reckons_104 ?_
          refine b_sub [1, 2, 3, 4] rfl ?_
          exact tfX12_reckons_105 n0 hO k25 hk25 _ _ _ _ _ _
        · refine b_lconst hO dX12_reckons_93 (v := 1) rfl ?_
          refine b_goto hO dX12_reckons_94 (tgt := 105) (by decide) ?_
          refine b_sub [1, 2, 3, 4] rfl ?_
          exact tfX12_reckons_105 n0 hO k25 hk25 _ _ _ _ _ _
      · refine b_aload_n hO dX12_reckons_76 1 rfl rfl ?_
        refine b_get hO flX12_99 kLY_0 (v := .ref (ad 17)) rfl dX12_reckons_77 ?_
        refine b_iload_n hO dX12_reckons_80 4 rfl rfl ?_
        refine b_iald hO kLY_17 (n := 3200) rfl dX12_reckons_81 ?_
        refine b_i2l hO dX12_reckons_82 ?_
        refine b_goto hO dX12_reckons_83 (tgt := 105) (by decide) ?_
        refine b_sub [1, 2, 3, 4] rfl ?_
        exact tfX12_reckons_105 n0 hO k25 hk25 _ _ _ _ _ _
theorem lX12_reckons_25 (n0 : Nat) (hO : OKc p (rmL 3) s m args meth c LY D cy ad cX12_reckons RX12 5 3 (some .long)) : ∀ (w : Nat) (x1 : Int32) (x2 : Int32) (x3 : Int32) (M : Mem), BL p l e (rmL 3) s m args below meth c LY D cy ad 5 (QL LY D cy ad) 25 [(0, .ref (ad 0)), (1, .int x1), (2, .int x2), (3, .int x3)] [] M (loopN (bX12_reckons_25 n0) (fun _ _ _ _ => none) w x1 x2 x3 M) := by
  intro w
  induction w with
  | zero =>
    intros
    exact b_none
  | succ w ih =>
    intro x1 x2 x3 M
    exact tbX12_reckons_25 n0 hO _ ih x1 x2 x3 M
theorem tfX12_reckons_25 (n0 : Nat) (hO : OKc p (rmL 3) s m args meth c LY D cy ad cX12_reckons RX12 5 3 (some .long)) (x1 : Int32) (x2 : Int32) (x3 : Int32) (M : Mem) : BL p l e (rmL 3) s m args below meth c LY D cy ad 5 (QL LY D cy ad) 25 [(0, .ref (ad 0)), (1, .int x1), (2, .int x2), (3, .int x3)] [] M (fX12_reckons_25 n0 x1 x2 x3 M) := lX12_reckons_25 n0 hO n0 x1 x2 x3 M
theorem tfX12_reckons (n0 : Nat) (hO : OKc p (rmL 3) s m args meth c LY D cy ad cX12_reckons RX12 5 3 (some .long)) (x1 : Int32) (M : Mem) : BL p l e (rmL 3) s m args below meth c LY D cy ad 5 (QL LY D cy ad) 0 [(0, .ref (ad 0)), (1, .int x1)] [] M (fX12_reckons n0 x1 M) := by
  unfold fX12_reckons
  refine b_iconst hO dX12_reckons_0 ic_i_0 ?_
  refine b_istore_n hO dX12_reckons_1 rfl (by decide) (lv' := [(2, .int _), (0, .ref _), (1, .int _)]) rfl ?_
  refine b_sipush hO dX12_reckons_2 ic_s_1600 ?_
  refine b_aload_n hO dX12_reckons_5 1 rfl rfl ?_
  refine b_get hO flX12_51 kLY_0 (v := .int (gI _ 13)) rfl dX12_reckons_6 ?_
  refine b_imul hO dX12_reckons_9 ?_
  refine b_aload_n hO dX12_reckons_10 1 rfl rfl ?_
  refine b_get hO flX12_90 kLY_0 (v := .ref (ad 14)) rfl dX12_reckons_11 ?_
  refine b_iconst hO dX12_reckons_14 ic_i_2 ?_
  refine b_aload_n hO dX12_reckons_15 1 rfl rfl ?_
  refine b_get hO flX12_51 kLY_0 (v := .int (gI _ 13)) rfl dX12_reckons_16 ?_
  refine b_imul hO dX12_reckons_19 ?_
  refine b_iload_n hO dX12_reckons_20 2 rfl rfl ?_
  refine b_iadd hO dX12_reckons_21 ?_
  refine b_iald hO kLY_14 (n := 4) rfl dX12_reckons_22 ?_
  refine b_iadd hO dX12_reckons_23 ?_
  refine b_topI (fun x3_24 => ?_)
  refine b_istore_n hO dX12_reckons_24 rfl (by decide) (lv' := [(3, .int _), (2, .int _), (0, .ref _), (1, .int _)]) rfl ?_
  refine b_sub [2, 3, 1, 0] rfl ?_
  exact tfX12_reckons_25 n0 hO _ _ _ _
theorem ctX12_reckons (n0 : Nat) (hI : Inj LY ad) (x1 : Int32) (M : Mem) : CT l LY D cy ad yX12_reckons cX12_reckons 5 (some .long) 3 (QL LY D cy ad) [.ref (ad 0), .int x1] M (fX12_reckons n0 x1 M) :=
  CT.mk LYok hI (by decide) (Nat.le_of_ble_eq_true rfl) (fun hO => tfX12_reckons n0 hO x1 M)
/-! X12_hour -/
def fX12_hour_29 (n0 : Nat) (v0 : Int64) (M : Mem) : Option (Int32 × Mem) :=
  if 0 ≤ (lg_cmp v0 (0 : Int64)) then
    if (lg_cmp v0 (23 : Int64)) ≤ 0 then
      some ((v0).toInt32, M)
    else
      some ((23 : Int32), M)
  else
    some ((0 : Int32), M)
def fX12_hour (n0 : Nat) (x1 : Int32) (x2 : Int32) (M : Mem) : Option (Int32 × Mem) :=
  (fX12_lays n0 x1 x2 M).bind fun z3 =>
  (fX12_isTold n0 (0 : Int32) z3).bind fun z8 =>
  if z8.1 = 0 then
    if oob (1 : Int32) 10 then none else
    fX12_hour_29 n0 ((gA z8.2 35 (Int32.toNatClampNeg (1 : Int32)))).toInt64 z8.2
  else
    (fX12_reckons n0 (0 : Int32) z8.2).bind fun z16 =>
    fX12_hour_29 n0 z16.1 z16.2
theorem tfX12_hour_29 (n0 : Nat) (hO : OKc p (rmL 4) s m args meth c LY D cy ad cX12_hour RX12 5 4 (some .int)) (v0 : Int64) (M : Mem) : BL p l e (rmL 4) s m args below meth c LY D cy ad 5 (QI LY D cy ad) 29 [] [.long v0] M (fX12_hour_29 n0 v0 M) := by
  unfold fX12_hour_29
  refine b_lstore_n hO dX12_hour_29 rfl (by decide) (lv' := [(3, .long _)]) rfl ?_
  refine b_lload_n hO dX12_hour_30 0 rfl rfl ?_
  refine b_lconst hO dX12_hour_31 (v := 0) rfl ?_
  refine b_lcmp hO dX12_hour_32 ?_
  refine b_if_ge hO dX12_hour_33 (tgt := 40) (by decide) ?_ ?_
  · refine b_lload_n hO dX12_hour_40 0 rfl rfl ?_
    refine b_ldc2 hO w1684 dX12_hour_41 ?_
    refine b_lcmp hO dX12_hour_44 ?_
    refine b_if_le hO dX12_hour_45 (tgt := 53) (by decide) ?_ ?_
    · refine b_lload_n hO dX12_hour_53 0 rfl rfl ?_
      refine b_l2i hO dX12_hour_54 ?_
      exact b_iret hO dX12_hour_55
    · refine b_bipush hO dX12_hour_48 ic_b_23 ?_
      refine b_goto hO dX12_hour_50 (tgt := 55) (by decide) ?_
      exact b_iret hO dX12_hour_55
  · refine b_iconst hO dX12_hour_36 ic_i_0 ?_
    refine b_goto hO dX12_hour_37 (tgt := 55) (by decide) ?_
    exact b_iret hO dX12_hour_55
theorem tfX12_hour (n0 : Nat) (hO : OKc p (rmL 4) s m args meth c LY D cy ad cX12_hour RX12 5 4 (some .int)) (x1 : Int32) (x2 : Int32) (M : Mem) : BL p l e (rmL 4) s m args below meth c LY D cy ad 5 (QI LY D cy ad) 0 [(0, .ref (ad 0)), (1, .int x1), (2, .int x2)] [] M (fX12_hour n0 x1 x2 M) := by
  unfold fX12_hour
  refine b_aload_n hO dX12_hour_0 0 rfl rfl ?_
  refine b_iload_n hO dX12_hour_1 1 rfl rfl ?_
  refine b_iload_n hO dX12_hour_2 2 rfl rfl ?_
  refine b_callVV hO mdX12_lays mvX12_lays w1661 (ci := 12) rfl rfl (by decide) kLY_0 (As := [.int _, .int _]) (st := []) (ctX12_lays n0 hO.2.2.2.2.2.2.1 _ _ _) (Nat.le_of_ble_eq_true rfl) rfl rfl (Nat.le_of_ble_eq_true rfl) dX12_hour_3 (fun z3 => ?_)
  refine b_aload_n hO dX12_hour_6 0 rfl rfl ?_
  refine b_iconst hO dX12_hour_7 ic_i_0 ?_
  refine b_callVI hO mdX12_isTold mvX12_isTold w1665 (ci := 12) rfl rfl (by decide) kLY_0 (As := [.int _]) (st := []) (ctX12_isTold n0 hO.2.2.2.2.2.2.1 _ _) (Nat.le_of_ble_eq_true rfl) rfl rfl (Nat.le_of_ble_eq_true rfl) dX12_hour_8 (fun z8 => ?_)
  refine b_if_eq hO dX12_hour_11 (tgt := 22) (by decide) ?_ ?_
  · refine b_aload_n hO dX12_hour_22 0 rfl rfl ?_
    refine b_get hO flX12_186 kLY_0 (v := .ref (ad 35)) rfl dX12_hour_23 ?_
    refine b_iconst hO dX12_hour_26 ic_i_1 ?_
    refine b_iald hO kLY_35 (n := 10) rfl dX12_hour_27 ?_
    refine b_i2l hO dX12_hour_28 ?_
    refine b_sub [] rfl ?_
    exact tfX12_hour_29 n0 hO _ _
  · refine b_aload_n hO dX12_hour_14 0 rfl rfl ?_
    refine b_iconst hO dX12_hour_15 ic_i_0 ?_
    refine b_callVL hO mdX12_reckons mvX12_reckons w1669 (ci := 12) rfl rfl (by decide) kLY_0 (As := [.int _]) (st := []) (ctX12_reckons n0 hO.2.2.2.2.2.2.1 _ _) (Nat.le_of_ble_eq_true rfl) rfl rfl (Nat.le_of_ble_eq_true rfl) dX12_hour_16 (fun z16 => ?_)
    refine b_goto hO dX12_hour_19 (tgt := 29) (by decide) ?_
    refine b_sub [] rfl ?_
    exact tfX12_hour_29 n0 hO _ _
theorem ctX12_hour (n0 : Nat) (hI : Inj LY ad) (x1 : Int32) (x2 : Int32) (M : Mem) : CT l LY D cy ad yX12_hour cX12_hour 5 (some .int) 4 (QI LY D cy ad) [.ref (ad 0), .int x1, .int x2] M (fX12_hour n0 x1 x2 M) :=
  CT.mk LYok hI (by decide) (Nat.le_of_ble_eq_true rfl) (fun hO => tfX12_hour n0 hO x1 x2 M)
/-! X12_writesDown -/
def fX12_writesDown_59 (n0 : Nat) (x1 : Int32) (x2 : Int32) (M : Mem) : Option (Mem) :=
  if oob x1 22 then none else
  bnd ((2 : Int32) * (((40 : Int32) * x1) + (gA M 32 (Int32.toNatClampNeg x1)))) fun x3_72 =>
  if oob x1 22 then none else
  if oob x3_72 1760 then none else
  bnd (sA M 33 (Int32.toNatClampNeg x3_72) (gA M 28 (Int32.toNatClampNeg x1))) fun M84 =>
  if oob (x3_72 + (1 : Int32)) 1760 then none else
  bnd (sA M84 33 (Int32.toNatClampNeg (x3_72 + (1 : Int32))) x2) fun M93 =>
  if oob x1 22 then none else
  if oob x1 22 then none else
  some (sA M93 32 (Int32.toNatClampNeg x1) ((gA M93 32 (Int32.toNatClampNeg x1)) + (1 : Int32)))
def bX12_writesDown_16 (n0 : Nat) (k16 : Int32 → Int32 → Int32 → Mem → Option (Mem)) (x1 : Int32) (x2 : Int32) (x3 : Int32) (M : Mem) : Option (Mem) :=
  if ((((80 : Int32) * x1) + (80 : Int32)) - (2 : Int32)) ≤ x3 then
    if oob x1 22 then none else
    if oob x1 22 then none else
    fX12_writesDown_59 n0 x1 x2 (sA M 32 (Int32.toNatClampNeg x1) ((gA M 32 (Int32.toNatClampNeg x1)) - (1 : Int32)))
  else
    if oob (x3 + (2 : Int32)) 1760 then none else
    if oob x3 1760 then none else
    bnd (sA M 33 (Int32.toNatClampNeg x3) (gA M 33 (Int32.toNatClampNeg (x3 + (2 : Int32))))) fun M42 =>
    k16 x1 x2 (x3 + (1 : Int32)) M42
def fX12_writesDown_16 (n0 : Nat) : Int32 → Int32 → Int32 → Mem → Option (Mem) := loopN (bX12_writesDown_16 n0) (fun _ _ _ _ => none) n0
def fX12_writesDown (n0 : Nat) (x1 : Int32) (x2 : Int32) (M : Mem) : Option (Mem) :=
  if oob x1 22 then none else
  if (gA M 32 (Int32.toNatClampNeg x1)) = (40 : Int32) then
    bnd ((80 : Int32) * x1) fun x3_15 =>
    fX12_writesDown_16 n0 x1 x2 x3_15 M
  else
    fX12_writesDown_59 n0 x1 x2 M
theorem tfX12_writesDown_59 (n0 : Nat) (hO : OKc p (rmL 1) s m args meth c LY D cy ad cX12_writesDown RX12 4 1 none) (x1 : Int32) (x2 : Int32) (M : Mem) : BL p l e (rmL 1) s m args below meth c LY D cy ad 4 (QV LY D cy ad) 59 [(0, .ref (ad 0)), (1, .int x1), (2, .int x2)] [] M (fX12_writesDown_59 n0 x1 x2 M) := by
  unfold fX12_writesDown_59
  refine b_iconst hO dX12_writesDown_59 ic_i_2 ?_
  refine b_bipush hO dX12_writesDown_60 ic_b_40 ?_
  refine b_iload_n hO dX12_writesDown_62 1 rfl rfl ?_
  refine b_imul hO dX12_writesDown_63 ?_
  refine b_aload_n hO dX12_writesDown_64 0 rfl rfl ?_
  refine b_get hO flX12_168 kLY_0 (v := .ref (ad 32)) rfl dX12_writesDown_65 ?_
  refine b_iload_n hO dX12_writesDown_68 1 rfl rfl ?_
  refine b_iald hO kLY_32 (n := 22) rfl dX12_writesDown_69 ?_
  refine b_iadd hO dX12_writesDown_70 ?_
  refine b_imul hO dX12_writesDown_71 ?_
  refine b_topI (fun x3_72 => ?_)
  refine b_istore_n hO dX12_writesDown_72 rfl (by decide) (lv' := [(3, .int _), (0, .ref _), (1, .int _), (2, .int _)]) rfl ?_
  refine b_aload_n hO dX12_writesDown_73 1 rfl rfl ?_
  refine b_get hO flX12_171 kLY_0 (v := .ref (ad 33)) rfl dX12_writesDown_74 ?_
  refine b_iload_n hO dX12_writesDown_77 0 rfl rfl ?_
  refine b_aload_n hO dX12_writesDown_78 1 rfl rfl ?_
  refine b_get hO flX12_156 kLY_0 (v := .ref (ad 28)) rfl dX12_writesDown_79 ?_
  refine b_iload_n hO dX12_writesDown_82 2 rfl rfl ?_
  refine b_iald hO kLY_28 (n := 22) rfl dX12_writesDown_83 ?_
  refine b_iast hO kLY_33 (n := 1760) rfl dX12_writesDown_84 ?_
  refine b_bnd (fun M84 => ?_)
  refine b_aload_n hO dX12_writesDown_85 1 rfl rfl ?_
  refine b_get hO flX12_171 kLY_0 (v := .ref (ad 33)) rfl dX12_writesDown_86 ?_
  refine b_iload_n hO dX12_writesDown_89 0 rfl rfl ?_
  refine b_iconst hO dX12_writesDown_90 ic_i_1 ?_
  refine b_iadd hO dX12_writesDown_91 ?_
  refine b_iload_n hO dX12_writesDown_92 3 rfl rfl ?_
  refine b_iast hO kLY_33 (n := 1760) rfl dX12_writesDown_93 ?_
  refine b_bnd (fun M93 => ?_)
  refine b_aload_n hO dX12_writesDown_94 1 rfl rfl ?_
  refine b_get hO flX12_168 kLY_0 (v := .ref (ad 32)) rfl dX12_writesDown_95 ?_
  refine b_iload_n hO dX12_writesDown_98 2 rfl rfl ?_
  refine b_dup2 hO dX12_writesDown_99 rfl rfl ?_
  refine b_iald hO kLY_32 (n := 22) rfl dX12_writesDown_100 ?_
  refine b_iconst hO dX12_writesDown_101 ic_i_1 ?_
  refine b_iadd hO dX12_writesDown_102 ?_
  refine b_iast hO kLY_32 (n := 22) rfl dX12_writesDown_103 ?_
  exact b_vret hO dX12_writesDown_104
theorem tbX12_writesDown_16 (n0 : Nat) (hO : OKc p (rmL 1) s m args meth c LY D cy ad cX12_writesDown RX12 4 1 none) (k16 : Int32 → Int32 → Int32 → Mem → Option (Mem)) (hk16 : ∀ (x1 : Int32) (x2 : Int32) (x3 : Int32) (M : Mem), BL p l e (rmL 1) s m args below meth c LY D cy ad 4 (QV LY D cy ad) 16 [(0, .ref (ad 0)), (1, .int x1), (2, .int x2), (3, .int x3)] [] M (k16 x1 x2 x3 M)) (x1 : Int32) (x2 : Int32) (x3 : Int32) (M : Mem) : BL p l e (rmL 1) s m args below meth c LY D cy ad 4 (QV LY D cy ad) 16 [(0, .ref (ad 0)), (1, .int x1), (2, .int x2), (3, .int x3)] [] M (bX12_writesDown_16 n0 k16 x1 x2 x3 M) := by
  unfold bX12_writesDown_16
  refine b_iload_n hO dX12_writesDown_16 3 rfl rfl ?_
  refine b_bipush hO dX12_writesDown_17 ic_b_80 ?_
  refine b_iload_n hO dX12_writesDown_19 1 rfl rfl ?_
  refine b_imul hO dX12_writesDown_20 ?_
  refine b_bipush hO dX12_writesDown_21 ic_b_80 ?_
  refine b_iadd hO dX12_writesDown_23 ?_
  refine b_iconst hO dX12_writesDown_24 ic_i_2 ?_
  refine b_isub hO dX12_writesDown_25 ?_
  refine b_icmp_ge hO dX12_writesDown_26 (tgt := 49) (by decide) ?_ ?_
  · refine b_aload_n hO dX12_writesDown_49 0 rfl rfl ?_
    refine b_get hO flX12_168 kLY_0 (v := .ref (ad 32)) rfl dX12_writesDown_50 ?_
    refine b_iload_n hO dX12_writesDown_53 1 rfl rfl ?_
    refine b_dup2 hO dX12_writesDown_54 rfl rfl ?_
    refine b_iald hO kLY_32 (n := 22) rfl dX12_writesDown_55 ?_
    refine b_iconst hO dX12_writesDown_56 ic_i_1 ?_
    refine b_isub hO dX12_writesDown_57 ?_
    refine b_iast hO kLY_32 (n := 22) rfl dX12_writesDown_58 ?_
    refine b_sub [0, 1, 2] rfl ?_
    exact tfX12_writesDown_59 n0 hO _ _ _
  · refine b_aload_n hO dX12_writesDown_29 0 rfl rfl ?_
    refine b_get hO flX12_171 kLY_0 (v := .ref (ad 33)) rfl dX12_writesDown_30 ?_
    refine b_iload_n hO dX12_writesDown_33 3 rfl rfl ?_
    refine b_aload_n hO dX12_writesDown_34 0 rfl rfl ?_
    refine b_get hO flX12_171 kLY_0 (v := .ref (ad 33)) rfl dX12_writesDown_35 ?_
    refine b_iload_n hO dX12_writesDown_38 3 rfl rfl ?_
    refine b_iconst hO dX12_writesDown_39 ic_i_2 ?_
    refine b_iadd hO dX12_writesDown_40 ?_
    refine b_iald hO kLY_33 (n := 1760) rfl dX12_writesDown_41 ?_
    refine b_iast hO kLY_33 (n := 1760) rfl dX12_writesDown_42 ?_
    refine b_bnd (fun M42 => ?_)
    refine b_iinc hO dX12_writesDown_43 3 rfl ic_i_1 (by decide) (lv' := [(3, .int _), (0, .ref _), (1, .int _), (2, .int _)]) rfl ?_
    refine b_goto hO dX12_writesDown_46 (tgt := 16) (by decide) ?_
    refine b_sub [1, 2, 3, 0] rfl ?_
    exact hk16 _ _ _ _
theorem lX12_writesDown_16 (n0 : Nat) (hO : OKc p (rmL 1) s m args meth c LY D cy ad cX12_writesDown RX12 4 1 none) : ∀ (w : Nat) (x1 : Int32) (x2 : Int32) (x3 : Int32) (M : Mem), BL p l e (rmL 1) s m args below meth c LY D cy ad 4 (QV LY D cy ad) 16 [(0, .ref (ad 0)), (1, .int x1), (2, .int x2), (3, .int x3)] [] M (loopN (bX12_writesDown_16 n0) (fun _ _ _ _ => none) w x1 x2 x3 M) := by
  intro w
  induction w with
  | zero =>
    intros
    exact b_none
  | succ w ih =>
    intro x1 x2 x3 M
    exact tbX12_writesDown_16 n0 hO _ ih x1 x2 x3 M
theorem tfX12_writesDown_16 (n0 : Nat) (hO : OKc p (rmL 1) s m args meth c LY D cy ad cX12_writesDown RX12 4 1 none) (x1 : Int32) (x2 : Int32) (x3 : Int32) (M : Mem) : BL p l e (rmL 1) s m args below meth c LY D cy ad 4 (QV LY D cy ad) 16 [(0, .ref (ad 0)), (1, .int x1), (2, .int x2), (3, .int x3)] [] M (fX12_writesDown_16 n0 x1 x2 x3 M) := lX12_writesDown_16 n0 hO n0 x1 x2 x3 M
theorem tfX12_writesDown (n0 : Nat) (hO : OKc p (rmL 1) s m args meth c LY D cy ad cX12_writesDown RX12 4 1 none) (x1 : Int32) (x2 : Int32) (M : Mem) : BL p l e (rmL 1) s m args below meth c LY D cy ad 4 (QV LY D cy ad) 0 [(0, .ref (ad 0)), (1, .int x1), (2, .int x2)] [] M (fX12_writesDown n0 x1 x2 M) := by
  unfold fX12_writesDown
  refine b_aload_n hO dX12_writesDown_0 0 rfl rfl ?_
  refine b_get hO flX12_168 kLY_0 (v := .ref (ad 32)) rfl dX12_writesDown_1 ?_
  refine b_iload_n hO dX12_writesDown_4 1 rfl rfl ?_
  refine b_iald hO kLY_32 (n := 22) rfl dX12_writesDown_5 ?_
  refine b_bipush hO dX12_writesDown_6 ic_b_40 ?_
  refine b_icmp_ne hO dX12_writesDown_8 (tgt := 59) (by decide) ?_ ?_
  · exact tfX12_writesDown_59 n0 hO _ _ _
  · refine b_bipush hO dX12_writesDown_11 ic_b_80 ?_
    refine b_iload_n hO dX12_writesDown_13 1 rfl rfl ?_
    refine b_imul hO dX12_writesDown_14 ?_
    refine b_topI (fun x3_15 => ?_)
    refine b_istore_n hO dX12_writesDown_15 rfl (by decide) (lv' := [(3, .int _), (0, .ref _), (1, .int _), (2, .int _)]) rfl ?_
    refine b_sub [1, 2, 3, 0] rfl ?_
    exact tfX12_writesDown_16 n0 hO _ _ _ _
theorem ctX12_writesDown (n0 : Nat) (hI : Inj LY ad) (x1 : Int32) (x2 : Int32) (M : Mem) : CT l LY D cy ad yX12_writesDown cX12_writesDown 4 none 1 (QV LY D cy ad) [.ref (ad 0), .int x1, .int x2] M (fX12_writesDown n0 x1 x2 M) :=
  CT.mk LYok hI (by decide) (Nat.le_of_ble_eq_true rfl) (fun hO => tfX12_writesDown n0 hO x1 x2 M)
/-! X12_finishesDoings -/
def fX12_finishesDoings_90 (n0 : Nat) (k4 : Int32 → Int32 → Int32 → Mem → Option (Int32 × Mem)) (x1 : Int32) (x2 : Int32) (x3 : Int32) (M : Mem) : Option (Int32 × Mem) :=
  k4 x1 x2 (x3 + (1 : Int32)) M
def bX12_finishesDoings_4 (n0 : Nat) (k4 : Int32 → Int32 → Int32 → Mem → Option (Int32 × Mem)) (x1 : Int32) (x2 : Int32) (x3 : Int32) (M : Mem) : Option (Int32 × Mem) :=
  if oob (gI M 13) 2 then none else
  if (gA M 10 (Int32.toNatClampNeg (gI M 13))) ≤ x3 then
    some (x2, M)
  else
    if oob x1 22 then none else
    (fX12_has2 n0 (gA M 31 (Int32.toNatClampNeg x1)) x3 M).bind fun z24 =>
    if z24.1 = 0 then
      if oob (((6 : Int32) * (gI z24.2 13)) + x3) 12 then none else
      (fX12_hour n0 x1 (gA z24.2 11 (Int32.toNatClampNeg (((6 : Int32) * (gI z24.2 13)) + x3))) z24.2).bind fun z46 =>
      if oob (((6 : Int32) * (gI z46.2 13)) + x3) 12 then none else
      if z46.1 = (gA z46.2 12 (Int32.toNatClampNeg (((6 : Int32) * (gI z46.2 13)) + x3))) then
        if oob x1 22 then none else
        if oob x1 22 then none else
        bnd (sA z46.2 31 (Int32.toNatClampNeg x1) ((gA z46.2 31 (Int32.toNatClampNeg x1)) ||| ((1 : Int32) <<< (x3 &&& 31)))) fun M80 =>
        (fX12_writesDown n0 x1 x3 M80).bind fun z84 =>
        fX12_finishesDoings_90 n0 k4 x1 (x2 + (1 : Int32)) x3 z84
      else
        fX12_finishesDoings_90 n0 k4 x1 x2 x3 z46.2
    else
      fX12_finishesDoings_90 n0 k4 x1 x2 x3 z24.2
def fX12_finishesDoings_4 (n0 : Nat) : Int32 → Int32 → Int32 → Mem → Option (Int32 × Mem) := loopN (bX12_finishesDoings_4 n0) (fun _ _ _ _ => none) n0
def fX12_finishesDoings (n0 : Nat) (x1 : Int32) (M : Mem) : Option (Int32 × Mem) :=
  fX12_finishesDoings_4 n0 x1 (0 : Int32) (0 : Int32) M
theorem tfX12_finishesDoings_90 (n0 : Nat) (hO : OKc p (rmL 5) s m args meth c LY D cy ad cX12_finishesDoings RX12 4 5 (some .int)) (k4 : Int32 → Int32 → Int32 → Mem → Option (Int32 × Mem)) (hk4 : ∀ (x1 : Int32) (x2 : Int32) (x3 : Int32) (M : Mem), BL p l e (rmL 5) s m args below meth c LY D cy ad 4 (QI LY D cy ad) 4 [(0, .ref (ad 0)), (1, .int x1), (2, .int x2), (3, .int x3)] [] M (k4 x1 x2 x3 M)) (x1 : Int32) (x2 : Int32) (x3 : Int32) (M : Mem) : BL p l e (rmL 5) s m args below meth c LY D cy ad 4 (QI LY D cy ad) 90 [(0, .ref (ad 0)), (1, .int x1), (2, .int x2), (3, .int x3)] [] M (fX12_finishesDoings_90 n0 k4 x1 x2 x3 M) := by
  unfold fX12_finishesDoings_90
  refine b_iinc hO dX12_finishesDoings_90 3 rfl ic_i_1 (by decide) (lv' := [(3, .int _), (0, .ref _), (1, .int _), (2, .int _)]) rfl ?_
  refine b_goto hO dX12_finishesDoings_93 (tgt := 4) (by decide) ?_
  refine b_sub [1, 2, 3, 0] rfl ?_
  exact hk4 _ _ _ _
theorem tbX12_finishesDoings_4 (n0 : Nat) (hO : OKc p (rmL 5) s m args meth c LY D cy ad cX12_finishesDoings RX12 4 5 (some .int)) (k4 : Int32 → Int32 → Int32 → Mem → Option (Int32 × Mem)) (hk4 : ∀ (x1 : Int32) (x2 : Int32) (x3 : Int32) (M : Mem), BL p l e (rmL 5) s m args below meth c LY D cy ad 4 (QI LY D cy ad) 4 [(0, .ref (ad 0)), (1, .int x1), (2, .int x2), (3, .int x3)] [] M (k4 x1 x2 x3 M)) (x1 : Int32) (x2 : Int32) (x3 : Int32) (M : Mem) : BL p l e (rmL 5) s m args below meth c LY D cy ad 4 (QI LY D cy ad) 4 [(0, .ref (ad 0)), (1, .int x1), (2, .int x2), (3, .int x3)] [] M (bX12_finishesDoings_4 n0 k4 x1 x2 x3 M) := by
  unfold bX12_finishesDoings_4
  refine b_iload_n hO dX12_finishesDoings_4 3 rfl rfl ?_
  refine b_aload_n hO dX12_finishesDoings_5 0 rfl rfl ?_
  refine b_get hO flX12_78 kLY_0 (v := .ref (ad 10)) rfl dX12_finishesDoings_6 ?_
  refine b_aload_n hO dX12_finishesDoings_9 0 rfl rfl ?_
  refine b_get hO flX12_51 kLY_0 (v := .int (gI _ 13)) rfl dX12_finishesDoings_10 ?_
  refine b_iald hO kLY_10 (n := 2) rfl dX12_finishesDoings_13 ?_
  refine b_icmp_ge hO dX12_finishesDoings_14 (tgt := 96) (by decide) ?_ ?_
  · refine b_iload_n hO dX12_finishesDoings_96 2 rfl rfl ?_
    exact b_iret hO dX12_finishesDoings_97
  · refine b_aload_n hO dX12_finishesDoings_17 0 rfl rfl ?_
    refine b_get hO flX12_165 kLY_0 (v := .ref (ad 31)) rfl dX12_finishesDoings_18 ?_
    refine b_iload_n hO dX12_finishesDoings_21 1 rfl rfl ?_
    refine b_iald hO kLY_31 (n := 22) rfl dX12_finishesDoings_22 ?_
    refine b_iload_n hO dX12_finishesDoings_23 3 rfl rfl ?_
    refine b_callSI hO mdX12_has2 w1576 w1575 (As := [.int _, .int _]) (st := []) (ctX12_has2 n0 hO.2.2.2.2.2.2.1 _ _ _) (Nat.le_of_ble_eq_true rfl) rfl rfl (Nat.le_of_ble_eq_true rfl) dX12_finishesDoings_24 (fun z24 => ?_)
    refine b_if_ne hO dX12_finishesDoings_27 (tgt := 90) (by decide) ?_ ?_
    · exact tfX12_finishesDoings_90 n0 hO k4 hk4 _ _ _ _
    · refine b_aload_n hO dX12_finishesDoings_30 0 rfl rfl ?_
      refine b_iload_n hO dX12_finishesDoings_31 1 rfl rfl ?_
      refine b_aload_n hO dX12_finishesDoings_32 0 rfl rfl ?_
      refine b_get hO flX12_81 kLY_0 (v := .ref (ad 11)) rfl dX12_finishesDoings_33 ?_
      refine b_bipush hO dX12_finishesDoings_36 ic_b_6 ?_
      refine b_aload_n hO dX12_finishesDoings_38 0 rfl rfl ?_
      refine b_get hO flX12_51 kLY_0 (v := .int (gI _ 13)) rfl dX12_finishesDoings_39 ?_
      refine b_imul hO dX12_finishesDoings_42 ?_
      refine b_iload_n hO dX12_finishesDoings_43 3 rfl rfl ?_
      refine b_iadd hO dX12_finishesDoings_44 ?_
      refine b_iald hO kLY_11 (n := 12) rfl dX12_finishesDoings_45 ?_
      refine b_callVI hO mdX12_hour mvX12_hour w1657 (ci := 12) rfl rfl (by decide) kLY_0 (As := [.int _, .int _]) (st := []) (ctX12_hour n0 hO.2.2.2.2.2.2.1 _ _ _) (Nat.le_of_ble_eq_true rfl) rfl rfl (Nat.le_of_ble_eq_true rfl) dX12_finishesDoings_46 (fun z46 => ?_)
      refine b_aload_n hO dX12_finishesDoings_49 0 rfl rfl ?_
      refine b_get hO flX12_84 kLY_0 (v := .ref (ad 12)) rfl dX12_finishesDoings_50 ?_
      refine b_bipush hO dX12_finishesDoings_53 ic_b_6 ?_
      refine b_aload_n hO dX12_finishesDoings_55 0 rfl rfl ?_
      refine b_get hO flX12_51 kLY_0 (v := .int (gI _ 13)) rfl dX12_finishesDoings_56 ?_
      refine b_imul hO dX12_finishesDoings_59 ?_
      refine b_iload_n hO dX12_finishesDoings_60 3 rfl rfl ?_
      refine b_iadd hO dX12_finishesDoings_61 ?_
      refine b_iald hO kLY_12 (n := 12) rfl dX12_finishesDoings_62 ?_
      refine b_icmp_eq hO dX12_finishesDoings_63 (tgt := 69) (by decide) ?_ ?_
      · refine b_aload_n hO dX12_finishesDoings_69 0 rfl rfl ?_
        refine b_get hO flX12_165 kLY_0 (v := .ref (ad 31)) rfl dX12_finishesDoings_70 ?_
        refine b_iload_n hO dX12_finishesDoings_73 1 rfl rfl ?_
        refine b_dup2 hO dX12_finishesDoings_74 rfl rfl ?_
        refine b_iald hO kLY_31 (n := 22) rfl dX12_finishesDoings_75 ?_
        refine b_iconst hO dX12_finishesDoings_76 ic_i_1 ?_
        refine b_iload_n hO dX12_finishesDoings_77 3 rfl rfl ?_
        refine b_ishl hO dX12_finishesDoings_78 ?_
        refine b_ior hO dX12_finishesDoings_79 ?_
        refine b_iast hO kLY_31 (n := 22) rfl dX12_finishesDoings_80 ?_
        refine b_bnd (fun M80 => ?_)
        refine b_aload_n hO dX12_finishesDoings_81 0 rfl rfl ?_
        refine b_iload_n hO dX12_finishesDoings_82 1 rfl rfl ?_
        refine b_iload_n hO dX12_finishesDoings_83 3 rfl rfl ?_
        refine b_callVV hO mdX12_writesDown mvX12_writesDown w1685 (ci := 12) rfl rfl (by decide) kLY_0 (As := [.int _, .int _]) (st := []) (ctX12_writesDown n0 hO.2.2.2.2.2.2.1 _ _ _) (Nat.le_of_ble_eq_true rfl) rfl rfl (Nat.le_of_ble_eq_true rfl) dX12_finishesDoings_84 (fun z84 => ?_)
        refine b_iinc hO dX12_finishesDoings_87 2 rfl ic_i_1 (by decide) (lv' := [(2, .int _), (0, .ref _), (1, .int _), (3, .int _)]) rfl ?_
        refine b_sub [1, 2, 0, 3] rfl ?_
        exact tfX12_finishesDoings_90 n0 hO k4 hk4 _ _ _ _
      · refine b_goto hO dX12_finishesDoings_66 (tgt := 90) (by decide) ?_
        exact tfX12_finishesDoings_90 n0 hO k4 hk4 _ _ _ _
theorem lX12_finishesDoings_4 (n0 : Nat) (hO : OKc p (rmL 5) s m args meth c LY D cy ad cX12_finishesDoings RX12 4 5 (some .int)) : ∀ (w : Nat) (x1 : Int32) (x2 : Int32) (x3 : Int32) (M : Mem), BL p l e (rmL 5) s m args below meth c LY D cy ad 4 (QI LY D cy ad) 4 [(0, .ref (ad 0)), (1, .int x1), (2, .int x2), (3, .int x3)] [] M (loopN (bX12_finishesDoings_4 n0) (fun _ _ _ _ => none) w x1 x2 x3 M) := by
  intro w
  induction w with
  | zero =>
    intros
    exact b_none
  | succ w ih =>
    intro x1 x2 x3 M
    exact tbX12_finishesDoings_4 n0 hO _ ih x1 x2 x3 M
theorem tfX12_finishesDoings_4 (n0 : Nat) (hO : OKc p (rmL 5) s m args meth c LY D cy ad cX12_finishesDoings RX12 4 5 (some .int)) (x1 : Int32) (x2 : Int32) (x3 : Int32) (M : Mem) : BL p l e (rmL 5) s m args below meth c LY D cy ad 4 (QI LY D cy ad) 4 [(0, .ref (ad 0)), (1, .int x1), (2, .int x2), (3, .int x3)] [] M (fX12_finishesDoings_4 n0 x1 x2 x3 M) := lX12_finishesDoings_4 n0 hO n0 x1 x2 x3 M
theorem tfX12_finishesDoings (n0 : Nat) (hO : OKc p (rmL 5) s m args meth c LY D cy ad cX12_finishesDoings RX12 4 5 (some .int)) (x1 : Int32) (M : Mem) : BL p l e (rmL 5) s m args below meth c LY D cy ad 4 (QI LY D cy ad) 0 [(0, .ref (ad 0)), (1, .int x1)] [] M (fX12_finishesDoings n0 x1 M) := by
  unfold fX12_finishesDoings
  refine b_iconst hO dX12_finishesDoings_0 ic_i_0 ?_
  refine b_istore_n hO dX12_finishesDoings_1 rfl (by decide) (lv' := [(2, .int _), (0, .ref _), (1, .int _)]) rfl ?_
  refine b_iconst hO dX12_finishesDoings_2 ic_i_0 ?_
  refine b_istore_n hO dX12_finishesDoings_3 rfl (by decide) (lv' := [(3, .int _), (2, .int _), (0, .ref _), (1, .int _)]) rfl ?_
  refine b_sub [2, 3, 1, 0] rfl ?_
  exact tfX12_finishesDoings_4 n0 hO _ _ _ _
theorem ctX12_finishesDoings (n0 : Nat) (hI : Inj LY ad) (x1 : Int32) (M : Mem) : CT l LY D cy ad yX12_finishesDoings cX12_finishesDoings 4 (some .int) 5 (QI LY D cy ad) [.ref (ad 0), .int x1] M (fX12_finishesDoings n0 x1 M) :=
  CT.mk LYok hI (by decide) (Nat.le_of_ble_eq_true rfl) (fun hO => tfX12_finishesDoings n0 hO x1 M)
/-! X12_begin -/
def bX12_begin_16 (n0 : Nat) (k16 : Int32 → Mem → Option (Mem)) (x1 : Int32) (M : Mem) : Option (Mem) :=
  if oob (gI M 13) 2 then none else
  if (gA M 5 (Int32.toNatClampNeg (gI M 13))) ≤ x1 then
    if oob (0 : Int32) 22 then none else
    bnd (sA M 32 (Int32.toNatClampNeg (0 : Int32)) (0 : Int32)) fun M67 =>
    bnd (sI M67 54 (0 : Int32)) fun M70 =>
    bnd (sI M70 61 (0 : Int32)) fun M75 =>
    (fX12_finishesDoings n0 (0 : Int32) M75).bind fun z80 =>
    some z80.2
  else
    if oob (((5 : Int32) * (gI M 13)) + x1) 10 then none else
    if oob x1 110 then none else
    bnd (sA M 29 (Int32.toNatClampNeg x1) (gA M 6 (Int32.toNatClampNeg (((5 : Int32) * (gI M 13)) + x1)))) fun M47 =>
    if oob x1 110 then none else
    bnd (sA M47 30 (Int32.toNatClampNeg x1) (0 : Int32)) fun M54 =>
    k16 (x1 + (1 : Int32)) M54
def fX12_begin_16 (n0 : Nat) : Int32 → Mem → Option (Mem) := loopN (bX12_begin_16 n0) (fun _ _ => none) n0
def fX12_begin (n0 : Nat) (M : Mem) : Option (Mem) :=
  if oob (0 : Int32) 22 then none else
  bnd (sA M 28 (Int32.toNatClampNeg (0 : Int32)) (0 : Int32)) fun M6 =>
  if oob (0 : Int32) 22 then none else
  bnd (sA M6 31 (Int32.toNatClampNeg (0 : Int32)) (0 : Int32)) fun M13 =>
  fX12_begin_16 n0 (0 : Int32) M13
theorem tbX12_begin_16 (n0 : Nat) (hO : OKc p (rmL 6) s m args meth c LY D cy ad cX12_begin RX12 2 6 none) (k16 : Int32 → Mem → Option (Mem)) (hk16 : ∀ (x1 : Int32) (M : Mem), BL p l e (rmL 6) s m args below meth c LY D cy ad 2 (QV LY D cy ad) 16 [(0, .ref (ad 0)), (1, .int x1)] [] M (k16 x1 M)) (x1 : Int32) (M : Mem) : BL p l e (rmL 6) s m args below meth c LY D cy ad 2 (QV LY D cy ad) 16 [(0, .ref (ad 0)), (1, .int x1)] [] M (bX12_begin_16 n0 k16 x1 M) := by
  unfold bX12_begin_16
  refine b_iload_n hO dX12_begin_16 1 rfl rfl ?_
  refine b_aload_n hO dX12_begin_17 0 rfl rfl ?_
  refine b_get hO flX12_63 kLY_0 (v := .ref (ad 5)) rfl dX12_begin_18 ?_
  refine b_aload_n hO dX12_begin_21 0 rfl rfl ?_
  refine b_get hO flX12_51 kLY_0 (v := .int (gI _ 13)) rfl dX12_begin_22 ?_
  refine b_iald hO kLY_5 (n := 2) rfl dX12_begin_25 ?_
  refine b_icmp_ge hO dX12_begin_26 (tgt := 61) (by decide) ?_ ?_
  · refine b_aload_n hO dX12_begin_61 0 rfl rfl ?_
    refine b_get hO flX12_168 kLY_0 (v := .ref (ad 32)) rfl dX12_begin_62 ?_
    refine b_iconst hO dX12_begin_65 ic_i_0 ?_
    refine b_iconst hO dX12_begin_66 ic_i_0 ?_
    refine b_iast hO kLY_32 (n := 22) rfl dX12_begin_67 ?_
    refine b_bnd (fun M67 => ?_)
    refine b_aload_n hO dX12_begin_68 0 rfl rfl ?_
    refine b_iconst hO dX12_begin_69 ic_i_0 ?_
    refine b_putI hO flX12_177 kLY_0 rfl rfl rfl (id := 54) rfl dX12_begin_70 ?_
    refine b_bnd (fun M70 => ?_)
    refine b_aload_n hO dX12_begin_73 0 rfl rfl ?_
    refine b_iconst hO dX12_begin_74 ic_i_0 ?_
    refine b_putI hO flX12_198 kLY_0 rfl rfl rfl (id := 61) rfl dX12_begin_75 ?_
    refine b_bnd (fun M75 => ?_)
    refine b_aload_n hO dX12_begin_78 0 rfl rfl ?_
    refine b_iconst hO dX12_begin_79 ic_i_0 ?_
    refine b_callVI hO mdX12_finishesDoings mvX12_finishesDoings w1653 (ci := 12) rfl rfl (by decide) kLY_0 (As := [.int _]) (st := []) (ctX12_finishesDoings n0 hO.2.2.2.2.2.2.1 _ _) (Nat.le_of_ble_eq_true rfl) rfl rfl (Nat.le_of_ble_eq_true rfl) dX12_begin_80 (fun z80 => ?_)
    refine b_pop hO dX12_begin_83 rfl ?_
    exact b_vret hO dX12_begin_84
  · refine b_aload_n hO dX12_begin_29 0 rfl rfl ?_
    refine b_get hO flX12_159 kLY_0 (v := .ref (ad 29)) rfl dX12_begin_30 ?_
    refine b_iload_n hO dX12_begin_33 1 rfl rfl ?_
    refine b_aload_n hO dX12_begin_34 0 rfl rfl ?_
    refine b_get hO flX12_66 kLY_0 (v := .ref (ad 6)) rfl dX12_begin_35 ?_
    refine b_iconst hO dX12_begin_38 ic_i_5 ?_
    refine b_aload_n hO dX12_begin_39 0 rfl rfl ?_
    refine b_get hO flX12_51 kLY_0 (v := .int (gI _ 13)) rfl dX12_begin_40 ?_
    refine b_imul hO dX12_begin_43 ?_
    refine b_iload_n hO dX12_begin_44 1 rfl rfl ?_
    refine b_iadd hO dX12_begin_45 ?_
    refine b_iald hO kLY_6 (n := 10) rfl dX12_begin_46 ?_
    refine b_iast hO kLY_29 (n := 110) rfl dX12_begin_47 ?_
    refine b_bnd (fun M47 => ?_)
    refine b_aload_n hO dX12_begin_48 0 rfl rfl ?_
    refine b_get hO flX12_162 kLY_0 (v := .ref (ad 30)) rfl dX12_begin_49 ?_
    refine b_iload_n hO dX12_begin_52 1 rfl rfl ?_
    refine b_iconst hO dX12_begin_53 ic_i_0 ?_
    refine b_iast hO kLY_30 (n := 110) rfl dX12_begin_54 ?_
    refine b_bnd (fun M54 => ?_)
    refine b_iinc hO dX12_begin_55 1 rfl ic_i_1 (by decide) (lv' := [(1, .int _), (0, .ref _)]) rfl ?_
    refine b_goto hO dX12_begin_58 (tgt := 16) (by decide) ?_
    refine b_sub [1, 0] rfl ?_
    exact hk16 _ _
theorem lX12_begin_16 (n0 : Nat) (hO : OKc p (rmL 6) s m args meth c LY D cy ad cX12_begin RX12 2 6 none) : ∀ (w : Nat) (x1 : Int32) (M : Mem), BL p l e (rmL 6) s m args below meth c LY D cy ad 2 (QV LY D cy ad) 16 [(0, .ref (ad 0)), (1, .int x1)] [] M (loopN (bX12_begin_16 n0) (fun _ _ => none) w x1 M) := by
  intro w
  induction w with
  | zero =>
    intros
    exact b_none
  | succ w ih =>
    intro x1 M
    exact tbX12_begin_16 n0 hO _ ih x1 M
theorem tfX12_begin_16 (n0 : Nat) (hO : OKc p (rmL 6) s m args meth c LY D cy ad cX12_begin RX12 2 6 none) (x1 : Int32) (M : Mem) : BL p l e (rmL 6) s m args below meth c LY D cy ad 2 (QV LY D cy ad) 16 [(0, .ref (ad 0)), (1, .int x1)] [] M (fX12_begin_16 n0 x1 M) := lX12_begin_16 n0 hO n0 x1 M
theorem tfX12_begin (n0 : Nat) (hO : OKc p (rmL 6) s m args meth c LY D cy ad cX12_begin RX12 2 6 none) (M : Mem) : BL p l e (rmL 6) s m args below meth c LY D cy ad 2 (QV LY D cy ad) 0 [(0, .ref (ad 0))] [] M (fX12_begin n0 M) := by
  unfold fX12_begin
  refine b_aload_n hO dX12_begin_0 0 rfl rfl ?_
  refine b_get hO flX12_156 kLY_0 (v := .ref (ad 28)) rfl dX12_begin_1 ?_
  refine b_iconst hO dX12_begin_4 ic_i_0 ?_
  refine b_iconst hO dX12_begin_5 ic_i_0 ?_
  refine b_iast hO kLY_28 (n := 22) rfl dX12_begin_6 ?_
  refine b_bnd (fun M6 => ?_)
  refine b_aload_n hO dX12_begin_7 0 rfl rfl ?_
  refine b_get hO flX12_165 kLY_0 (v := .ref (ad 31)) rfl dX12_begin_8 ?_
  refine b_iconst hO dX12_begin_11 ic_i_0 ?_
  refine b_iconst hO dX12_begin_12 ic_i_0 ?_
  refine b_iast hO kLY_31 (n := 22) rfl dX12_begin_13 ?_
  refine b_bnd (fun M13 => ?_)
  refine b_iconst hO dX12_begin_14 ic_i_0 ?_
  refine b_istore_n hO dX12_begin_15 rfl (by decide) (lv' := [(1, .int _), (0, .ref _)]) rfl ?_
  refine b_sub [1, 0] rfl ?_
  exact tfX12_begin_16 n0 hO _ _
theorem ctX12_begin (n0 : Nat) (hI : Inj LY ad) (M : Mem) : CT l LY D cy ad yX12_begin cX12_begin 2 none 6 (QV LY D cy ad) [.ref (ad 0)] M (fX12_begin n0 M) :=
  CT.mk LYok hI (by decide) (Nat.le_of_ble_eq_true rfl) (fun hO => tfX12_begin n0 hO M)
/-! X12_town -/
def bX12_town_123 (n0 : Nat) (k116 : Int32 → Mem → Option (Int32 × Mem)) (k123 : Int32 → Int32 → Mem → Option (Int32 × Mem)) (x1 : Int32) (x2 : Int32) (M : Mem) : Option (Int32 × Mem) :=
  if (5 : Int32) ≤ x2 then
    k116 (x1 + (1 : Int32)) M
  else
    (fX12_at n0 (gI M 34) x1 x2 M).bind fun z139 =>
    if oob z139.1 50 then none else
    bnd (sA z139.2 8 (Int32.toNatClampNeg z139.1) (0 : Int32)) fun M143 =>
    k123 x1 (x2 + (1 : Int32)) M143
def fX12_town_123 (n0 : Nat) (k116 : Int32 → Mem → Option (Int32 × Mem)) : Int32 → Int32 → Mem → Option (Int32 × Mem) := loopN (bX12_town_123 n0 k116) (fun _ _ _ => none) n0
def fX12_town_196 (n0 : Nat) (x1 : Int32) (M : Mem) : Option (Int32 × Mem) :=
  bnd (sI M 10 (gI M 8)) fun M201 =>
  bnd (sI M201 11 (gI M201 9)) fun M209 =>
  if (gI M209 8) ≤ 0 then
    (fX12_measures n0 M209).bind fun z226 =>
    bnd (sI z226 13 (gI z226 34)) fun M234 =>
    (fX12_begin n0 M234).bind fun z238 =>
    some (x1, z238)
  else
    (fX12_refuses n0 (1 : Int32) M209).bind fun z221 =>
    some (z221.1, z221.2)
def bX12_town_167 (n0 : Nat) (k167 : Int32 → Mem → Option (Int32 × Mem)) (x1 : Int32) (M : Mem) : Option (Int32 × Mem) :=
  if (gI M 8) = 0 then
    if (gI M 3) = 0 then
      fX12_town_196 n0 x1 M
    else
      (fX12_statement n0 M).bind fun z182 =>
      (fX12_finishes n0 (x1 + (1 : Int32)) z182).bind fun z190 =>
      k167 (x1 + (1 : Int32)) z190
  else
    fX12_town_196 n0 x1 M
def fX12_town_167 (n0 : Nat) : Int32 → Mem → Option (Int32 × Mem) := loopN (bX12_town_167 n0) (fun _ _ => none) n0
def bX12_town_116 (n0 : Nat) (k116 : Int32 → Mem → Option (Int32 × Mem)) (x1 : Int32) (M : Mem) : Option (Int32 × Mem) :=
  if (5 : Int32) ≤ x1 then
    bnd (sI M 33 (0 : Int32)) fun M158 =>
    (fX12_ahead n0 M158).bind fun z164 =>
    fX12_town_167 n0 (0 : Int32) z164
  else
    fX12_town_123 n0 k116 x1 (0 : Int32) M
def fX12_town_116 (n0 : Nat) : Int32 → Mem → Option (Int32 × Mem) := loopN (bX12_town_116 n0) (fun _ _ => none) n0
def fX12_town (n0 : Nat) (M : Mem) : Option (Int32 × Mem) :=
  bnd (sI M 2 (gI M 1)) fun M5 =>
  bnd (sI M5 1 (0 : Int32)) fun M10 =>
  bnd (sI M10 5 (0 : Int32)) fun M15 =>
  bnd (sI M15 8 (0 : Int32)) fun M20 =>
  bnd (sI M20 9 (-1 : Int32)) fun M25 =>
  bnd (sI M25 34 ((1 : Int32) - (gI M25 13))) fun M35 =>
  if oob (gI M35 34) 2 then none else
  bnd (sA M35 2 (Int32.toNatClampNeg (gI M35 34)) (0 : Int32)) fun M47 =>
  if oob (gI M47 34) 2 then none else
  bnd (sA M47 5 (Int32.toNatClampNeg (gI M47 34)) (0 : Int32)) fun M57 =>
  if oob (gI M57 34) 2 then none else
  bnd (sA M57 7 (Int32.toNatClampNeg (gI M57 34)) (0 : Int32)) fun M67 =>
  if oob (gI M67 34) 2 then none else
  bnd (sA M67 10 (Int32.toNatClampNeg (gI M67 34)) (0 : Int32)) fun M77 =>
  if oob (gI M77 34) 2 then none else
  bnd (sA M77 13 (Int32.toNatClampNeg (gI M77 34)) (0 : Int32)) fun M87 =>
  if oob ((2 : Int32) * (gI M87 34)) 4 then none else
  bnd (sA M87 14 (Int32.toNatClampNeg ((2 : Int32) * (gI M87 34))) (-1 : Int32)) fun M99 =>
  if oob (((2 : Int32) * (gI M99 34)) + (1 : Int32)) 4 then none else
  bnd (sA M99 14 (Int32.toNatClampNeg (((2 : Int32) * (gI M99 34)) + (1 : Int32))) (-1 : Int32)) fun M113 =>
  fX12_town_116 n0 (0 : Int32) M113
theorem tbX12_town_123 (n0 : Nat) (hO : OKc p (rmL 8) s m args meth c LY D cy ad cX12_town RX12 3 8 (some .int)) (k116 : Int32 → Mem → Option (Int32 × Mem)) (k123 : Int32 → Int32 → Mem → Option (Int32 × Mem)) (hk116 : ∀ (x1 : Int32) (M : Mem), BL p l e (rmL 8) s m args below meth c LY D cy ad 3 (QI LY D cy ad) 116 [(0, .ref (ad 0)), (1, .int x1)] [] M (k116 x1 M)) (hk123 : ∀ (x1 : Int32) (x2 : Int32) (M : Mem), BL p l e (rmL 8) s m args below meth c LY D cy ad 3 (QI LY D cy ad) 123 [(0, .ref (ad 0)), (1, .int x1), (2, .int x2)] [] M (k123 x1 x2 M)) (x1 : Int32) (x2 : Int32) (M : Mem) : BL p l e (rmL 8) s m args below meth c LY D cy ad 3 (QI LY D cy ad) 123 [(0, .ref (ad 0)), (1, .int x1), (2, .int x2)] [] M (bX12_town_123 n0 k116 k123 x1 x2 M) := by
  unfold bX12_town_123
  refine b_iload_n hO dX12_town_123 2 rfl rfl ?_
  refine b_iconst hO dX12_town_124 ic_i_5 ?_
  refine b_icmp_ge hO dX12_town_125 (tgt := 150) (by decide) ?_ ?_
  · refine b_iinc hO dX12_town_150 1 rfl ic_i_1 (by decide) (lv' := [(1, .int _), (0, .ref _), (2, .int _)]) rfl ?_
    refine b_goto hO dX12_town_153 (tgt := 116) (by decide) ?_
    refine b_sub [1, 0] rfl ?_
    exact hk116 _ _
  · refine b_aload_n hO dX12_town_128 0 rfl rfl ?_
    refine b_get hO flX12_72 kLY_0 (v := .ref (ad 8)) rfl dX12_town_129 ?_
    refine b_aload_n hO dX12_town_132 0 rfl rfl ?_
    refine b_aload_n hO dX12_town_133 0 rfl rfl ?_
    refine b_get hO flX12_115 kLY_0 (v := .int (gI _ 34)) rfl dX12_town_134 ?_
    refine b_iload_n hO dX12_town_137 1 rfl rfl ?_
    refine b_iload_n hO dX12_town_138 2 rfl rfl ?_
    refine b_callVI hO mdX12_at mvX12_at w1469 (ci := 12) rfl rfl (by decide) kLY_0 (As := [.int _, .int _, .int _]) (st := [.ref _]) (ctX12_at n0 hO.2.2.2.2.2.2.1 _ _ _ _) (Nat.le_of_ble_eq_true rfl) rfl rfl (Nat.le_of_ble_eq_true rfl) dX12_town_139 (fun z139 => ?_)
    refine b_iconst hO dX12_town_142 ic_i_0 ?_
    refine b_iast hO kLY_8 (n := 50) rfl dX12_town_143 ?_
    refine b_bnd (fun M143 => ?_)
    refine b_iinc hO dX12_town_144 2 rfl ic_i_1 (by decide) (lv' := [(2, .int _), (0, .ref _), (1, .int _)]) rfl ?_
    refine b_goto hO dX12_town_147 (tgt := 123) (by decide) ?_
    refine b_sub [1, 2, 0] rfl ?_
    exact hk123 _ _ _
theorem lX12_town_123 (n0 : Nat) (hO : OKc p (rmL 8) s m args meth c LY D cy ad cX12_town RX12 3 8 (some .int)) (k116 : Int32 → Mem → Option (Int32 × Mem)) (hk116 : ∀ (x1 : Int32) (M : Mem), BL p l e (rmL 8) s m args below meth c LY D cy ad 3 (QI LY D cy ad) 116 [(0, .ref (ad 0)), (1, .int x1)] [] M (k116 x1 M)) : ∀ (w : Nat) (x1 : Int32) (x2 : Int32) (M : Mem), BL p l e (rmL 8) s m args below meth c LY D cy ad 3 (QI LY D cy ad) 123 [(0, .ref (ad 0)), (1, .int x1), (2, .int x2)] [] M (loopN (bX12_town_123 n0 k116) (fun _ _ _ => none) w x1 x2 M) := by
  intro w
  induction w with
  | zero =>
    intros
    exact b_none
  | succ w ih =>
    intro x1 x2 M
    exact tbX12_town_123 n0 hO k116 _ hk116 ih x1 x2 M
theorem tfX12_town_123 (n0 : Nat) (hO : OKc p (rmL 8) s m args meth c LY D cy ad cX12_town RX12 3 8 (some .int)) (k116 : Int32 → Mem → Option (Int32 × Mem)) (hk116 : ∀ (x1 : Int32) (M : Mem), BL p l e (rmL 8) s m args below meth c LY D cy ad 3 (QI LY D cy ad) 116 [(0, .ref (ad 0)), (1, .int x1)] [] M (k116 x1 M)) (x1 : Int32) (x2 : Int32) (M : Mem) : BL p l e (rmL 8) s m args below meth c LY D cy ad 3 (QI LY D cy ad) 123 [(0, .ref (ad 0)), (1, .int x1), (2, .int x2)] [] M (fX12_town_123 n0 k116 x1 x2 M) := lX12_town_123 n0 hO k116 hk116 n0 x1 x2 M
theorem tfX12_town_196 (n0 : Nat) (hO : OKc p (rmL 8) s m args meth c LY D cy ad cX12_town RX12 3 8 (some .int)) (x1 : Int32) (M : Mem) : BL p l e (rmL 8) s m args below meth c LY D cy ad 3 (QI LY D cy ad) 196 [(0, .ref (ad 0)), (1, .int x1)] [] M (fX12_town_196 n0 x1 M) := by
  unfold fX12_town_196
  refine b_aload_n hO dX12_town_196 0 rfl rfl ?_
  refine b_aload_n hO dX12_town_197 0 rfl rfl ?_
  refine b_get hO flX12_36 kLY_0 (v := .int (gI _ 8)) rfl dX12_town_198 ?_
  refine b_putI hO flX12_42 kLY_0 rfl rfl rfl (id := 10) rfl dX12_town_201 ?_
  refine b_bnd (fun M201 => ?_)
  refine b_aload_n hO dX12_town_204 0 rfl rfl ?_
  refine b_aload_n hO dX12_town_205 0 rfl rfl ?_
  refine b_get hO flX12_39 kLY_0 (v := .int (gI _ 9)) rfl dX12_town_206 ?_
  refine b_putI hO flX12_45 kLY_0 rfl rfl rfl (id := 11) rfl dX12_town_209 ?_
  refine b_bnd (fun M209 => ?_)
  refine b_aload_n hO dX12_town_212 0 rfl rfl ?_
  refine b_get hO flX12_36 kLY_0 (v := .int (gI _ 8)) rfl dX12_town_213 ?_
  refine b_if_le hO dX12_town_216 (tgt := 225) (by decide) ?_ ?_
  · refine b_aload_n hO dX12_town_225 0 rfl rfl ?_
    refine b_callVV hO mdX12_measures mvX12_measures w1644 (ci := 12) rfl rfl (by decide) kLY_0 (As := []) (st := []) (ctX12_measures n0 hO.2.2.2.2.2.2.1 _) (Nat.le_of_ble_eq_true rfl) rfl rfl (Nat.le_of_ble_eq_true rfl) dX12_town_226 (fun z226 => ?_)
    refine b_aload_n hO dX12_town_229 0 rfl rfl ?_
    refine b_aload_n hO dX12_town_230 0 rfl rfl ?_
    refine b_get hO flX12_115 kLY_0 (v := .int (gI _ 34)) rfl dX12_town_231 ?_
    refine b_putI hO flX12_51 kLY_0 rfl rfl rfl (id := 13) rfl dX12_town_234 ?_
    refine b_bnd (fun M234 => ?_)
    refine b_aload_n hO dX12_town_237 0 rfl rfl ?_
    refine b_callVV hO mdX12_begin mvX12_begin w1649 (ci := 12) rfl rfl (by decide) kLY_0 (As := []) (st := []) (ctX12_begin n0 hO.2.2.2.2.2.2.1 _) (Nat.le_of_ble_eq_true rfl) rfl rfl (Nat.le_of_ble_eq_true rfl) dX12_town_238 (fun z238 => ?_)
    refine b_iload_n hO dX12_town_241 1 rfl rfl ?_
    exact b_iret hO dX12_town_242
  · refine b_aload_n hO dX12_town_219 0 rfl rfl ?_
    refine b_iconst hO dX12_town_220 ic_i_1 ?_
    refine b_callVI hO mdX12_refuses mvX12_refuses w1453 (ci := 12) rfl rfl (by decide) kLY_0 (As := [.int _]) (st := []) (ctX12_refuses n0 hO.2.2.2.2.2.2.1 _ _) (Nat.le_of_ble_eq_true rfl) rfl rfl (Nat.le_of_ble_eq_true rfl) dX12_town_221 (fun z221 => ?_)
    exact b_iret hO dX12_town_224
theorem tbX12_town_167 (n0 : Nat) (hO : OKc p (rmL 8) s m args meth c LY D cy ad cX12_town RX12 3 8 (some .int)) (k167 : Int32 → Mem → Option (Int32 × Mem)) (hk167 : ∀ (x1 : Int32) (M : Mem), BL p l e (rmL 8) s m args below meth c LY D cy ad 3 (QI LY D cy ad) 167 [(0, .ref (ad 0)), (1, .int x1)] [] M (k167 x1 M)) (x1 : Int32) (M : Mem) : BL p l e (rmL 8) s m args below meth c LY D cy ad 3 (QI LY D cy ad) 167 [(0, .ref (ad 0)), (1, .int x1)] [] M (bX12_town_167 n0 k167 x1 M) := by
  unfold bX12_town_167
  refine b_aload_n hO dX12_town_167 0 rfl rfl ?_
  refine b_get hO flX12_36 kLY_0 (v := .int (gI _ 8)) rfl dX12_town_168 ?_
  refine b_if_ne hO dX12_town_171 (tgt := 196) (by decide) ?_ ?_
  · exact tfX12_town_196 n0 hO _ _
  · refine b_aload_n hO dX12_town_174 0 rfl rfl ?_
    refine b_get hO flX12_20 kLY_0 (v := .int (gI _ 3)) rfl dX12_town_175 ?_
    refine b_if_eq hO dX12_town_178 (tgt := 196) (by decide) ?_ ?_
    · exact tfX12_town_196 n0 hO _ _
    · refine b_aload_n hO dX12_town_181 0 rfl rfl ?_
      refine b_callVV hO mdX12_statement mvX12_statement w1483 (ci := 12) rfl rfl (by decide) kLY_0 (As := []) (st := []) (ctX12_statement n0 hO.2.2.2.2.2.2.1 _) (Nat.le_of_ble_eq_true rfl) rfl rfl (Nat.le_of_ble_eq_true rfl) dX12_town_182 (fun z182 => ?_)
      refine b_iinc hO dX12_town_185 1 rfl ic_i_1 (by decide) (lv' := [(1, .int _), (0, .ref _)]) rfl ?_
      refine b_aload_n hO dX12_town_188 1 rfl rfl ?_
      refine b_iload_n hO dX12_town_189 0 rfl rfl ?_
      refine b_callVV hO mdX12_finishes mvX12_finishes w1636 (ci := 12) rfl rfl (by decide) kLY_0 (As := [.int _]) (st := []) (ctX12_finishes n0 hO.2.2.2.2.2.2.1 _ _) (Nat.le_of_ble_eq_true rfl) rfl rfl (Nat.le_of_ble_eq_true rfl) dX12_town_190 (fun z190 => ?_)
      refine b_goto hO dX12_town_193 (tgt := 167) (by decide) ?_
      refine b_sub [1, 0] rfl ?_
      exact hk167 _ _
theorem lX12_town_167 (n0 : Nat) (hO : OKc p (rmL 8) s m args meth c LY D cy ad cX12_town RX12 3 8 (some .int)) : ∀ (w : Nat) (x1 : Int32) (M : Mem), BL p l e (rmL 8) s m args below meth c LY D cy ad 3 (QI LY D cy ad) 167 [(0, .ref (ad 0)), (1, .int x1)] [] M (loopN (bX12_town_167 n0) (fun _ _ => none) w x1 M) := by
  intro w
  induction w with
  | zero =>
    intros
    exact b_none
  | succ w ih =>
    intro x1 M
    exact tbX12_town_167 n0 hO _ ih x1 M
theorem tfX12_town_167 (n0 : Nat) (hO : OKc p (rmL 8) s m args meth c LY D cy ad cX12_town RX12 3 8 (some .int)) (x1 : Int32) (M : Mem) : BL p l e (rmL 8) s m args below meth c LY D cy ad 3 (QI LY D cy ad) 167 [(0, .ref (ad 0)), (1, .int x1)] [] M (fX12_town_167 n0 x1 M) := lX12_town_167 n0 hO n0 x1 M
theorem tbX12_town_116 (n0 : Nat) (hO : OKc p (rmL 8) s m args meth c LY D cy ad cX12_town RX12 3 8 (some .int)) (k116 : Int32 → Mem → Option (Int32 × Mem)) (hk116 : ∀ (x1 : Int32) (M : Mem), BL p l e (rmL 8) s m args below meth c LY D cy ad 3 (QI LY D cy ad) 116 [(0, .ref (ad 0)), (1, .int x1)] [] M (k116 x1 M)) (x1 : Int32) (M : Mem) : BL p l e (rmL 8) s m args below meth c LY D cy ad 3 (QI LY D cy ad) 116 [(0, .ref (ad 0)), (1, .int x1)] [] M (bX12_town_116 n0 k116 x1 M) := by
  unfold bX12_town_116
  refine b_iload_n hO dX12_town_116 1 rfl rfl ?_
  refine b_iconst hO dX12_town_117 ic_i_5 ?_
  refine b_icmp_ge hO dX12_town_118 (tgt := 156) (by decide) ?_ ?_
  · refine b_aload_n hO dX12_town_156 0 rfl rfl ?_
    refine b_iconst hO dX12_town_157 ic_i_0 ?_
    refine b_putI hO flX12_112 kLY_0 rfl rfl rfl (id := 33) rfl dX12_town_158 ?_
    refine b_bnd (fun M158 => ?_)
    refine b_iconst hO dX12_town_161 ic_i_0 ?_
    refine b_istore_n hO dX12_town_162 rfl (by decide) (lv' := [(1, .int _), (0, .ref _)]) rfl ?_
    refine b_aload_n hO dX12_town_163 1 rfl rfl ?_
    refine b_callVV hO mdX12_ahead mvX12_ahead w1473 (ci := 12) rfl rfl (by decide) kLY_0 (As := []) (st := []) (ctX12_ahead n0 hO.2.2.2.2.2.2.1 _) (Nat.le_of_ble_eq_true rfl) rfl rfl (Nat.le_of_ble_eq_true rfl) dX12_town_164 (fun z164 => ?_)
    refine b_sub [1, 0] rfl ?_
    exact tfX12_town_167 n0 hO _ _
  · refine b_iconst hO dX12_town_121 ic_i_0 ?_
    refine b_istore_n hO dX12_town_122 rfl (by decide) (lv' := [(2, .int _), (0, .ref _), (1, .int _)]) rfl ?_
    refine b_sub [1, 2, 0] rfl ?_
    exact tfX12_town_123 n0 hO k116 hk116 _ _ _
theorem lX12_town_116 (n0 : Nat) (hO : OKc p (rmL 8) s m args meth c LY D cy ad cX12_town RX12 3 8 (some .int)) : ∀ (w : Nat) (x1 : Int32) (M : Mem), BL p l e (rmL 8) s m args below meth c LY D cy ad 3 (QI LY D cy ad) 116 [(0, .ref (ad 0)), (1, .int x1)] [] M (loopN (bX12_town_116 n0) (fun _ _ => none) w x1 M) := by
  intro w
  induction w with
  | zero =>
    intros
    exact b_none
  | succ w ih =>
    intro x1 M
    exact tbX12_town_116 n0 hO _ ih x1 M
theorem tfX12_town_116 (n0 : Nat) (hO : OKc p (rmL 8) s m args meth c LY D cy ad cX12_town RX12 3 8 (some .int)) (x1 : Int32) (M : Mem) : BL p l e (rmL 8) s m args below meth c LY D cy ad 3 (QI LY D cy ad) 116 [(0, .ref (ad 0)), (1, .int x1)] [] M (fX12_town_116 n0 x1 M) := lX12_town_116 n0 hO n0 x1 M
theorem tfX12_town (n0 : Nat) (hO : OKc p (rmL 8) s m args meth c LY D cy ad cX12_town RX12 3 8 (some .int)) (M : Mem) : BL p l e (rmL 8) s m args below meth c LY D cy ad 3 (QI LY D cy ad) 0 [(0, .ref (ad 0))] [] M (fX12_town n0 M) := by
  unfold fX12_town
  refine b_aload_n hO dX12_town_0 0 rfl rfl ?_
  refine b_aload_n hO dX12_town_1 0 rfl rfl ?_
  refine b_get hO flX12_13 kLY_0 (v := .int (gI _ 1)) rfl dX12_town_2 ?_
  refine b_putI hO flX12_17 kLY_0 rfl rfl rfl (id := 2) rfl dX12_town_5 ?_
  refine b_bnd (fun M5 => ?_)
  refine b_aload_n hO dX12_town_8 0 rfl rfl ?_
  refine b_iconst hO dX12_town_9 ic_i_0 ?_
  refine b_putI hO flX12_13 kLY_0 rfl rfl rfl (id := 1) rfl dX12_town_10 ?_
  refine b_bnd (fun M10 => ?_)
  refine b_aload_n hO dX12_town_13 0 rfl rfl ?_
  refine b_iconst hO dX12_town_14 ic_i_0 ?_
  refine b_putI hO flX12_26 kLY_0 rfl rfl rfl (id := 5) rfl dX12_town_15 ?_
  refine b_bnd (fun M15 => ?_)
  refine b_aload_n hO dX12_town_18 0 rfl rfl ?_
  refine b_iconst hO dX12_town_19 ic_i_0 ?_
  refine b_putI hO flX12_36 kLY_0 rfl rfl rfl (id := 8) rfl dX12_town_20 ?_
  refine b_bnd (fun M20 => ?_)
  refine b_aload_n hO dX12_town_23 0 rfl rfl ?_
  refine b_iconst hO dX12_town_24 ic_i_m1 ?_
  refine b_putI hO flX12_39 kLY_0 rfl rfl rfl (id := 9) rfl dX12_town_25 ?_
  refine b_bnd (fun M25 => ?_)
  refine b_aload_n hO dX12_town_28 0 rfl rfl ?_
  refine b_iconst hO dX12_town_29 ic_i_1 ?_
  refine b_aload_n hO dX12_town_30 0 rfl rfl ?_
  refine b_get hO flX12_51 kLY_0 (v := .int (gI _ 13)) rfl dX12_town_31 ?_
  refine b_isub hO dX12_town_34 ?_
  refine b_putI hO flX12_115 kLY_0 rfl rfl rfl (id := 34) rfl dX12_town_35 ?_
  refine b_bnd (fun M35 => ?_)
  refine b_aload_n hO dX12_town_38 0 rfl rfl ?_
  refine b_get hO flX12_54 kLY_0 (v := .ref (ad 2)) rfl dX12_town_39 ?_
  refine b_aload_n hO dX12_town_42 0 rfl rfl ?_
  refine b_get hO flX12_115 kLY_0 (v := .int (gI _ 34)) rfl dX12_town_43 ?_
  refine b_iconst hO dX12_town_46 ic_i_0 ?_
  refine b_iast hO kLY_2 (n := 2) rfl dX12_town_47 ?_
  refine b_bnd (fun M47 => ?_)
  refine b_aload_n hO dX12_town_48 0 rfl rfl ?_
  refine b_get hO flX12_63 kLY_0 (v := .ref (ad 5)) rfl dX12_town_49 ?_
  refine b_aload_n hO dX12_town_52 0 rfl rfl ?_
  refine b_get hO flX12_115 kLY_0 (v := .int (gI _ 34)) rfl dX12_town_53 ?_
  refine b_iconst hO dX12_town_56 ic_i_0 ?_
  refine b_iast hO kLY_5 (n := 2) rfl dX12_town_57 ?_
  refine b_bnd (fun M57 => ?_)
  refine b_aload_n hO dX12_town_58 0 rfl rfl ?_
  refine b_get hO flX12_69 kLY_0 (v := .ref (ad 7)) rfl dX12_town_59 ?_
  refine b_aload_n hO dX12_town_62 0 rfl rfl ?_
  refine b_get hO flX12_115 kLY_0 (v := .int (gI _ 34)) rfl dX12_town_63 ?_
  refine b_iconst hO dX12_town_66 ic_i_0 ?_
  refine b_iast hO kLY_7 (n := 2) rfl dX12_town_67 ?_
  refine b_bnd (fun M67 => ?_)
  refine b_aload_n hO dX12_town_68 0 rfl rfl ?_
  refine b_get hO flX12_78 kLY_0 (v := .ref (ad 10)) rfl dX12_town_69 ?_
  refine b_aload_n hO dX12_town_72 0 rfl rfl ?_
  refine b_get hO flX12_115 kLY_0 (v := .int (gI _ 34)) rfl dX12_town_73 ?_
  refine b_iconst hO dX12_town_76 ic_i_0 ?_
  refine b_iast hO kLY_10 (n := 2) rfl dX12_town_77 ?_
  refine b_bnd (fun M77 => ?_)
  refine b_aload_n hO dX12_town_78 0 rfl rfl ?_
  refine b_get hO flX12_87 kLY_0 (v := .ref (ad 13)) rfl dX12_town_79 ?_
  refine b_aload_n hO dX12_town_82 0 rfl rfl ?_
  refine b_get hO flX12_115 kLY_0 (v := .int (gI _ 34)) rfl dX12_town_83 ?_
  refine b_iconst hO dX12_town_86 ic_i_0 ?_
  refine b_iast hO kLY_13 (n := 2) rfl dX12_town_87 ?_
  refine b_bnd (fun M87 => ?_)
  refine b_aload_n hO dX12_town_88 0 rfl rfl ?_
  refine b_get hO flX12_90 kLY_0 (v := .ref (ad 14)) rfl dX12_town_89 ?_
  refine b_iconst hO dX12_town_92 ic_i_2 ?_
  refine b_aload_n hO dX12_town_93 0 rfl rfl ?_
  refine b_get hO flX12_115 kLY_0 (v := .int (gI _ 34)) rfl dX12_town_94 ?_
  refine b_imul hO dX12_town_97 ?_
  refine b_iconst hO dX12_town_98 ic_i_m1 ?_
  refine b_iast hO kLY_14 (n := 4) rfl dX12_town_99 ?_
  refine b_bnd (fun M99 => ?_)
  refine b_aload_n hO dX12_town_100 0 rfl rfl ?_
  refine b_get hO flX12_90 kLY_0 (v := .ref (ad 14)) rfl dX12_town_101 ?_
  refine b_iconst hO dX12_town_104 ic_i_2 ?_
  refine b_aload_n hO dX12_town_105 0 rfl rfl ?_
  refine b_get hO flX12_115 kLY_0 (v := .int (gI _ 34)) rfl dX12_town_106 ?_
  refine b_imul hO dX12_town_109 ?_
  refine b_iconst hO dX12_town_110 ic_i_1 ?_
  refine b_iadd hO dX12_town_111 ?_
  refine b_iconst hO dX12_town_112 ic_i_m1 ?_
  refine b_iast hO kLY_14 (n := 4) rfl dX12_town_113 ?_
  refine b_bnd (fun M113 => ?_)
  refine b_iconst hO dX12_town_114 ic_i_0 ?_
  refine b_istore_n hO dX12_town_115 rfl (by decide) (lv' := [(1, .int _), (0, .ref _)]) rfl ?_
  refine b_sub [1, 0] rfl ?_
  exact tfX12_town_116 n0 hO _ _
theorem ctX12_town (n0 : Nat) (hI : Inj LY ad) (M : Mem) : CT l LY D cy ad yX12_town cX12_town 3 (some .int) 8 (QI LY D cy ad) [.ref (ad 0)] M (fX12_town n0 M) :=
  CT.mk LYok hI (by decide) (Nat.le_of_ble_eq_true rfl) (fun hO => tfX12_town n0 hO M)
/-! X12_fault -/
def fX12_fault (n0 : Nat) (x1 : Int32) (M : Mem) : Option (Int32 × Mem) :=
  if x1 = 0 then
    some ((gI M 10), M)
  else
    if x1 = (1 : Int32) then
      some ((gI M 11), M)
    else
      some ((-1 : Int32), M)
theorem tfX12_fault (n0 : Nat) (hO : OKc p (rmL 1) s m args meth c LY D cy ad cX12_fault RX12 2 1 (some .int)) (x1 : Int32) (M : Mem) : BL p l e (rmL 1) s m args below meth c LY D cy ad 2 (QI LY D cy ad) 0 [(0, .ref (ad 0)), (1, .int x1)] [] M (fX12_fault n0 x1 M) := by
  unfold fX12_fault
  refine b_iload_n hO dX12_fault_0 1 rfl rfl ?_
  refine b_if_ne hO dX12_fault_1 (tgt := 11) (by decide) ?_ ?_
  · refine b_iload_n hO dX12_fault_11 1 rfl rfl ?_
    refine b_iconst hO dX12_fault_12 ic_i_1 ?_
    refine b_icmp_ne hO dX12_fault_13 (tgt := 23) (by decide) ?_ ?_
    · refine b_iconst hO dX12_fault_23 ic_i_m1 ?_
      exact b_iret hO dX12_fault_24
    · refine b_aload_n hO dX12_fault_16 0 rfl rfl ?_
      refine b_get hO flX12_45 kLY_0 (v := .int (gI _ 11)) rfl dX12_fault_17 ?_
      refine b_goto hO dX12_fault_20 (tgt := 24) (by decide) ?_
      exact b_iret hO dX12_fault_24
  · refine b_aload_n hO dX12_fault_4 0 rfl rfl ?_
    refine b_get hO flX12_42 kLY_0 (v := .int (gI _ 10)) rfl dX12_fault_5 ?_
    refine b_goto hO dX12_fault_8 (tgt := 24) (by decide) ?_
    exact b_iret hO dX12_fault_24
theorem ctX12_fault (n0 : Nat) (hI : Inj LY ad) (x1 : Int32) (M : Mem) : CT l LY D cy ad yX12_fault cX12_fault 2 (some .int) 1 (QI LY D cy ad) [.ref (ad 0), .int x1] M (fX12_fault n0 x1 M) :=
  CT.mk LYok hI (by decide) (Nat.le_of_ble_eq_true rfl) (fun hO => tfX12_fault n0 hO x1 M)
/-! X12_status -/
def fX12_status (n0 : Nat) (x1 : Int32) (M : Mem) : Option (Int32 × Mem) :=
  (fX12_is n0 x1 (0 : Int32) (5 : Int32) M).bind fun z3 =>
  if z3.1 = 0 then
    some ((-1 : Int32), z3.2)
  else
    if oob x1 6 then none else
    some ((gA z3.2 27 (Int32.toNatClampNeg x1)), z3.2)
theorem tfX12_status (n0 : Nat) (hO : OKc p (rmL 2) s m args meth c LY D cy ad cX12_status RX12 2 2 (some .int)) (x1 : Int32) (M : Mem) : BL p l e (rmL 2) s m args below meth c LY D cy ad 2 (QI LY D cy ad) 0 [(0, .ref (ad 0)), (1, .int x1)] [] M (fX12_status n0 x1 M) := by
  unfold fX12_status
  refine b_iload_n hO dX12_status_0 1 rfl rfl ?_
  refine b_iconst hO dX12_status_1 ic_i_0 ?_
  refine b_iconst hO dX12_status_2 ic_i_5 ?_
  refine b_callSI hO mdX12_is w1561 w1560 (As := [.int _, .int _, .int _]) (st := []) (ctX12_is n0 hO.2.2.2.2.2.2.1 _ _ _ _) (Nat.le_of_ble_eq_true rfl) rfl rfl (Nat.le_of_ble_eq_true rfl) dX12_status_3 (fun z3 => ?_)
  refine b_if_eq hO dX12_status_6 (tgt := 18) (by decide) ?_ ?_
  · refine b_iconst hO dX12_status_18 ic_i_m1 ?_
    exact b_iret hO dX12_status_19
  · refine b_aload_n hO dX12_status_9 0 rfl rfl ?_
    refine b_get hO flX12_153 kLY_0 (v := .ref (ad 27)) rfl dX12_status_10 ?_
    refine b_iload_n hO dX12_status_13 1 rfl rfl ?_
    refine b_iald hO kLY_27 (n := 6) rfl dX12_status_14 ?_
    refine b_goto hO dX12_status_15 (tgt := 19) (by decide) ?_
    exact b_iret hO dX12_status_19
theorem ctX12_status (n0 : Nat) (hI : Inj LY ad) (x1 : Int32) (M : Mem) : CT l LY D cy ad yX12_status cX12_status 2 (some .int) 2 (QI LY D cy ad) [.ref (ad 0), .int x1] M (fX12_status n0 x1 M) :=
  CT.mk LYok hI (by decide) (Nat.le_of_ble_eq_true rfl) (fun hO => tfX12_status n0 hO x1 M)
end
end
section
section
variable {p : Program} {l : Launch} {e : Env} {s : State} {m : MethodId} {args : Array Value} {below : List Frame} {meth : Method} {c : Code} {D : va_G} {cy : Nat → ClassId} {ad : Nat → Nat} {dd : Nat}

/-! X12_copies -/
def bX12_copies_91 (n0 : Nat) (k91 : Int32 → Int32 → Int32 → Mem → Option (Mem)) (x1 : Int32) (x2 : Int32) (x3 : Int32) (M : Mem) : Option (Mem) :=
  if oob x2 22 then none else
  if ((2 : Int32) * (gA M 32 (Int32.toNatClampNeg x2))) ≤ x3 then
    some M
  else
    if oob (((80 : Int32) * x2) + x3) 1760 then none else
    if oob (((80 : Int32) * x1) + x3) 1760 then none else
    bnd (sA M 33 (Int32.toNatClampNeg (((80 : Int32) * x1) + x3)) (gA M 33 (Int32.toNatClampNeg (((80 : Int32) * x2) + x3)))) fun M124 =>
    k91 x1 x2 (x3 + (1 : Int32)) M124
def fX12_copies_91 (n0 : Nat) : Int32 → Int32 → Int32 → Mem → Option (Mem) := loopN (bX12_copies_91 n0) (fun _ _ _ _ => none) n0
def bX12_copies_26 (n0 : Nat) (k26 : Int32 → Int32 → Int32 → Mem → Option (Mem)) (x1 : Int32) (x2 : Int32) (x3 : Int32) (M : Mem) : Option (Mem) :=
  if (5 : Int32) ≤ x3 then
    if oob x2 22 then none else
    if oob x1 22 then none else
    bnd (sA M 32 (Int32.toNatClampNeg x1) (gA M 32 (Int32.toNatClampNeg x2))) fun M88 =>
    fX12_copies_91 n0 x1 x2 (0 : Int32) M88
  else
    if oob (((5 : Int32) * x2) + x3) 110 then none else
    if oob (((5 : Int32) * x1) + x3) 110 then none else
    bnd (sA M 29 (Int32.toNatClampNeg (((5 : Int32) * x1) + x3)) (gA M 29 (Int32.toNatClampNeg (((5 : Int32) * x2) + x3)))) fun M50 =>
    if oob (((5 : Int32) * x2) + x3) 110 then none else
    if oob (((5 : Int32) * x1) + x3) 110 then none else
    bnd (sA M50 30 (Int32.toNatClampNeg (((5 : Int32) * x1) + x3)) (gA M50 30 (Int32.toNatClampNeg (((5 : Int32) * x2) + x3)))) fun M70 =>
    k26 x1 x2 (x3 + (1 : Int32)) M70
def fX12_copies_26 (n0 : Nat) : Int32 → Int32 → Int32 → Mem → Option (Mem) := loopN (bX12_copies_26 n0) (fun _ _ _ _ => none) n0
def fX12_copies (n0 : Nat) (x1 : Int32) (x2 : Int32) (M : Mem) : Option (Mem) :=
  if oob x2 22 then none else
  if oob x1 22 then none else
  bnd (sA M 28 (Int32.toNatClampNeg x1) (gA M 28 (Int32.toNatClampNeg x2))) fun M11 =>
  if oob x2 22 then none else
  if oob x1 22 then none else
  bnd (sA M11 31 (Int32.toNatClampNeg x1) (gA M11 31 (Int32.toNatClampNeg x2))) fun M23 =>
  fX12_copies_26 n0 x1 x2 (0 : Int32) M23
theorem tbX12_copies_91 (n0 : Nat) (hO : OKc p (rmL 1) s m args meth c LY D cy ad cX12_copies RX12 4 1 none) (k91 : Int32 → Int32 → Int32 → Mem → Option (Mem)) (hk91 : ∀ (x1 : Int32) (x2 : Int32) (x3 : Int32) (M : Mem), BL p l e (rmL 1) s m args below meth c LY D cy ad 4 (QV LY D cy ad) 91 [(0, .ref (ad 0)), (1, .int x1), (2, .int x2), (3, .int x3)] [] M (k91 x1 x2 x3 M)) (x1 : Int32) (x2 : Int32) (x3 : Int32) (M : Mem) : BL p l e (rmL 1) s m args below meth c LY D cy ad 4 (QV LY D cy ad) 91 [(0, .ref (ad 0)), (1, .int x1), (2, .int x2), (3, .int x3)] [] M (bX12_copies_91 n0 k91 x1 x2 x3 M) := by
  unfold bX12_copies_91
  refine b_iload_n hO dX12_copies_91 3 rfl rfl ?_
  refine b_iconst hO dX12_copies_92 ic_i_2 ?_
  refine b_aload_n hO dX12_copies_93 0 rfl rfl ?_
  refine b_get hO flX12_168 kLY_0 (v := .ref (ad 32)) rfl dX12_copies_94 ?_
  refine b_iload_n hO dX12_copies_97 2 rfl rfl ?_
  refine b_iald hO kLY_32 (n := 22) rfl dX12_copies_98 ?_
  refine b_imul hO dX12_copies_99 ?_
  refine b_icmp_ge hO dX12_copies_100 (tgt := 131) (by decide) ?_ ?_
  · exact b_vret hO dX12_copies_131
  · refine b_aload_n hO dX12_copies_103 0 rfl rfl ?_
    refine b_get hO flX12_171 kLY_0 (v := .ref (ad 33)) rfl dX12_copies_104 ?_
    refine b_bipush hO dX12_copies_107 ic_b_80 ?_
    refine b_iload_n hO dX12_copies_109 1 rfl rfl ?_
    refine b_imul hO dX12_copies_110 ?_
    refine b_iload_n hO dX12_copies_111 3 rfl rfl ?_
    refine b_iadd hO dX12_copies_112 ?_
    refine b_aload_n hO dX12_copies_113 0 rfl rfl ?_
    refine b_get hO flX12_171 kLY_0 (v := .ref (ad 33)) rfl dX12_copies_114 ?_
    refine b_bipush hO dX12_copies_117 ic_b_80 ?_
    refine b_iload_n hO dX12_copies_119 2 rfl rfl ?_
    refine b_imul hO dX12_copies_120 ?_
    refine b_iload_n hO dX12_copies_121 3 rfl rfl ?_
    refine b_iadd hO dX12_copies_122 ?_
    refine b_iald hO kLY_33 (n := 1760) rfl dX12_copies_123 ?_
    refine b_iast hO kLY_33 (n := 1760) rfl dX12_copies_124 ?_
    refine b_bnd (fun M124 => ?_)
    refine b_iinc hO dX12_copies_125 3 rfl ic_i_1 (by decide) (lv' := [(3, .int _), (0, .ref _), (1, .int _), (2, .int _)]) rfl ?_
    refine b_goto hO dX12_copies_128 (tgt := 91) (by decide) ?_
    refine b_sub [1, 2, 3, 0] rfl ?_
    exact hk91 _ _ _ _
theorem lX12_copies_91 (n0 : Nat) (hO : OKc p (rmL 1) s m args meth c LY D cy ad cX12_copies RX12 4 1 none) : ∀ (w : Nat) (x1 : Int32) (x2 : Int32) (x3 : Int32) (M : Mem), BL p l e (rmL 1) s m args below meth c LY D cy ad 4 (QV LY D cy ad) 91 [(0, .ref (ad 0)), (1, .int x1), (2, .int x2), (3, .int x3)] [] M (loopN (bX12_copies_91 n0) (fun _ _ _ _ => none) w x1 x2 x3 M) := by
  intro w
  induction w with
  | zero =>
    intros
    exact b_none
  | succ w ih =>
    intro x1 x2 x3 M
    exact tbX12_copies_91 n0 hO _ ih x1 x2 x3 M
theorem tfX12_copies_91 (n0 : Nat) (hO : OKc p (rmL 1) s m args meth c LY D cy ad cX12_copies RX12 4 1 none) (x1 : Int32) (x2 : Int32) (x3 : Int32) (M : Mem) : BL p l e (rmL 1) s m args below meth c LY D cy ad 4 (QV LY D cy ad) 91 [(0, .ref (ad 0)), (1, .int x1), (2, .int x2), (3, .int x3)] [] M (fX12_copies_91 n0 x1 x2 x3 M) := lX12_copies_91 n0 hO n0 x1 x2 x3 M
theorem tbX12_copies_26 (n0 : Nat) (hO : OKc p (rmL 1) s m args meth c LY D cy ad cX12_copies RX12 4 1 none) (k26 : Int32 → Int32 → Int32 → Mem → Option (Mem)) (hk26 : ∀ (x1 : Int32) (x2 : Int32) (x3 : Int32) (M : Mem), BL p l e (rmL 1) s m args below meth c LY D cy ad 4 (QV LY D cy ad) 26 [(0, .ref (ad 0)), (1, .int x1), (2, .int x2), (3, .int x3)] [] M (k26 x1 x2 x3 M)) (x1 : Int32) (x2 : Int32) (x3 : Int32) (M : Mem) : BL p l e (rmL 1) s m args below meth c LY D cy ad 4 (QV LY D cy ad) 26 [(0, .ref (ad 0)), (1, .int x1), (2, .int x2), (3, .int x3)] [] M (bX12_copies_26 n0 k26 x1 x2 x3 M) := by
  unfold bX12_copies_26
  refine b_iload_n hO dX12_copies_26 3 rfl rfl ?_
  refine b_iconst hO dX12_copies_27 ic_i_5 ?_
  refine b_icmp_ge hO dX12_copies_28 (tgt := 77) (by decide) ?_ ?_
  · refine b_aload_n hO dX12_copies_77 0 rfl rfl ?_
    refine b_get hO flX12_168 kLY_0 (v := .ref (ad 32)) rfl dX12_copies_78 ?_
    refine b_iload_n hO dX12_copies_81 1 rfl rfl ?_
    refine b_aload_n hO dX12_copies_82 0 rfl rfl ?_
    refine b_get hO flX12_168 kLY_0 (v := .ref (ad 32)) rfl dX12_copies_83 ?_
    refine b_iload_n hO dX12_copies_86 2 rfl rfl ?_
    refine b_iald hO kLY_32 (n := 22) rfl dX12_copies_87 ?_
    refine b_iast hO kLY_32 (n := 22) rfl dX12_copies_88 ?_
    refine b_bnd (fun M88 => ?_)
    refine b_iconst hO dX12_copies_89 ic_i_0 ?_
    refine b_istore_n hO dX12_copies_90 rfl (by decide) (lv' := [(3, .int _), (0, .ref _), (1, .int _), (2, .int _)]) rfl ?_
    refine b_sub [1, 2, 3, 0] rfl ?_
    exact tfX12_copies_91 n0 hO _ _ _ _
  · refine b_aload_n hO dX12_copies_31 0 rfl rfl ?_
    refine b_get hO flX12_159 kLY_0 (v := .ref (ad 29)) rfl dX12_copies_32 ?_
    refine b_iconst hO dX12_copies_35 ic_i_5 ?_
    refine b_iload_n hO dX12_copies_36 1 rfl rfl ?_
    refine b_imul hO dX12_copies_37 ?_
    refine b_iload_n hO dX12_copies_38 3 rfl rfl ?_
    refine b_iadd hO dX12_copies_39 ?_
    refine b_aload_n hO dX12_copies_40 0 rfl rfl ?_
    refine b_get hO flX12_159 kLY_0 (v := .ref (ad 29)) rfl dX12_copies_41 ?_
    refine b_iconst hO dX12_copies_44 ic_i_5 ?_
    refine b_iload_n hO dX12_copies_45 2 rfl rfl ?_
    refine b_imul hO dX12_copies_46 ?_
    refine b_iload_n hO dX12_copies_47 3 rfl rfl ?_
    refine b_iadd hO dX12_copies_48 ?_
    refine b_iald hO kLY_29 (n := 110) rfl dX12_copies_49 ?_
    refine b_iast hO kLY_29 (n := 110) rfl dX12_copies_50 ?_
    refine b_bnd (fun M50 => ?_)
    refine b_aload_n hO dX12_copies_51 0 rfl rfl ?_
    refine b_get hO flX12_162 kLY_0 (v := .ref (ad 30)) rfl dX12_copies_52 ?_
    refine b_iconst hO dX12_copies_55 ic_i_5 ?_
    refine b_iload_n hO dX12_copies_56 1 rfl rfl ?_
    refine b_imul hO dX12_copies_57 ?_
    refine b_iload_n hO dX12_copies_58 3 rfl rfl ?_
    refine b_iadd hO dX12_copies_59 ?_
    refine b_aload_n hO dX12_copies_60 0 rfl rfl ?_
    refine b_get hO flX12_162 kLY_0 (v := .ref (ad 30)) rfl dX12_copies_61 ?_
    refine b_iconst hO dX12_copies_64 ic_i_5 ?_
    refine b_iload_n hO dX12_copies_65 2 rfl rfl ?_
    refine b_imul hO dX12_copies_66 ?_
    refine b_iload_n hO dX12_copies_67 3 rfl rfl ?_
    refine b_iadd hO dX12_copies_68 ?_
    refine b_iald hO kLY_30 (n := 110) rfl dX12_copies_69 ?_
    refine b_iast hO kLY_30 (n := 110) rfl dX12_copies_70 ?_
    refine b_bnd (fun M70 => ?_)
    refine b_iinc hO dX12_copies_71 3 rfl ic_i_1 (by decide) (lv' := [(3, .int _), (0, .ref _), (1, .int _), (2, .int _)]) rfl ?_
    refine b_goto hO dX12_copies_74 (tgt := 26) (by decide) ?_
    refine b_sub [1, 2, 3, 0] rfl ?_
    exact hk26 _ _ _ _
theorem lX12_copies_26 (n0 : Nat) (hO : OKc p (rmL 1) s m args meth c LY D cy ad cX12_copies RX12 4 1 none) : ∀ (w : Nat) (x1 : Int32) (x2 : Int32) (x3 : Int32) (M : Mem), BL p l e (rmL 1) s m args below meth c LY D cy ad 4 (QV LY D cy ad) 26 [(0, .ref (ad 0)), (1, .int x1), (2, .int x2), (3, .int x3)] [] M (loopN (bX12_copies_26 n0) (fun _ _ _ _ => none) w x1 x2 x3 M) := by
  intro w
  induction w with
  | zero =>
    intros
    exact b_none
  | succ w ih =>
    intro x1 x2 x3 M
    exact tbX12_copies_26 n0 hO _ ih x1 x2 x3 M
theorem tfX12_copies_26 (n0 : Nat) (hO : OKc p (rmL 1) s m args meth c LY D cy ad cX12_copies RX12 4 1 none) (x1 : Int32) (x2 : Int32) (x3 : Int32) (M : Mem) : BL p l e (rmL 1) s m args below meth c LY D cy ad 4 (QV LY D cy ad) 26 [(0, .ref (ad 0)), (1, .int x1), (2, .int x2), (3, .int x3)] [] M (fX12_copies_26 n0 x1 x2 x3 M) := lX12_copies_26 n0 hO n0 x1 x2 x3 M
theorem tfX12_copies (n0 : Nat) (hO : OKc p (rmL 1) s m args meth c LY D cy ad cX12_copies RX12 4 1 none) (x1 : Int32) (x2 : Int32) (M : Mem) : BL p l e (rmL 1) s m args below meth c LY D cy ad 4 (QV LY D cy ad) 0 [(0, .ref (ad 0)), (1, .int x1), (2, .int x2)] [] M (fX12_copies n0 x1 x2 M) := by
  unfold fX12_copies
  refine b_aload_n hO dX12_copies_0 0 rfl rfl ?_
  refine b_get hO flX12_156 kLY_0 (v := .ref (ad 28)) rfl dX12_copies_1 ?_
  refine b_iload_n hO dX12_copies_4 1 rfl rfl ?_
  refine b_aload_n hO dX12_copies_5 0 rfl rfl ?_
  refine b_get hO flX12_156 kLY_0 (v := .ref (ad 28)) rfl dX12_copies_6 ?_
  refine b_iload_n hO dX12_copies_9 2 rfl rfl ?_
  refine b_iald hO kLY_28 (n := 22) rfl dX12_copies_10 ?_
  refine b_iast hO kLY_28 (n := 22) rfl dX12_copies_11 ?_
  refine b_bnd (fun M11 => ?_)
  refine b_aload_n hO dX12_copies_12 0 rfl rfl ?_
  refine b_get hO flX12_165 kLY_0 (v := .ref (ad 31)) rfl dX12_copies_13 ?_
  refine b_iload_n hO dX12_copies_16 1 rfl rfl ?_
  refine b_aload_n hO dX12_copies_17 0 rfl rfl ?_
  refine b_get hO flX12_165 kLY_0 (v := .ref (ad 31)) rfl dX12_copies_18 ?_
  refine b_iload_n hO dX12_copies_21 2 rfl rfl ?_
  refine b_iald hO kLY_31 (n := 22) rfl dX12_copies_22 ?_
  refine b_iast hO kLY_31 (n := 22) rfl dX12_copies_23 ?_
  refine b_bnd (fun M23 => ?_)
  refine b_iconst hO dX12_copies_24 ic_i_0 ?_
  refine b_istore_n hO dX12_copies_25 rfl (by decide) (lv' := [(3, .int _), (0, .ref _), (1, .int _), (2, .int _)]) rfl ?_
  refine b_sub [1, 2, 3, 0] rfl ?_
  exact tfX12_copies_26 n0 hO _ _ _ _
theorem ctX12_copies (n0 : Nat) (hI : Inj LY ad) (x1 : Int32) (x2 : Int32) (M : Mem) : CT l LY D cy ad yX12_copies cX12_copies 4 none 1 (QV LY D cy ad) [.ref (ad 0), .int x1, .int x2] M (fX12_copies n0 x1 x2 M) :=
  CT.mk LYok hI (by decide) (Nat.le_of_ble_eq_true rfl) (fun hO => tfX12_copies n0 hO x1 x2 M)
/-! X12_slot -/
def fX12_slot (n0 : Nat) (x1 : Int32) (M : Mem) : Option (Int32 × Mem) :=
  if (20 : Int32) = 0 then none else
  some (((2 : Int32) + (rem32 ((gI M 53) + x1) (20 : Int32))), M)
theorem tfX12_slot (n0 : Nat) (hO : OKc p (rmL 1) s m args meth c LY D cy ad cX12_slot RX12 2 1 (some .int)) (x1 : Int32) (M : Mem) : BL p l e (rmL 1) s m args below meth c LY D cy ad 2 (QI LY D cy ad) 0 [(0, .ref (ad 0)), (1, .int x1)] [] M (fX12_slot n0 x1 M) := by
  unfold fX12_slot
  refine b_iconst hO dX12_slot_0 ic_i_2 ?_
  refine b_aload_n hO dX12_slot_1 0 rfl rfl ?_
  refine b_get hO flX12_174 kLY_0 (v := .int (gI _ 53)) rfl dX12_slot_2 ?_
  refine b_iload_n hO dX12_slot_5 1 rfl rfl ?_
  refine b_iadd hO dX12_slot_6 ?_
  refine b_bipush hO dX12_slot_7 ic_b_20 ?_
  refine b_irem hO dX12_slot_9 ?_
  refine b_iadd hO dX12_slot_10 ?_
  exact b_iret hO dX12_slot_11
theorem ctX12_slot (n0 : Nat) (hI : Inj LY ad) (x1 : Int32) (M : Mem) : CT l LY D cy ad yX12_slot cX12_slot 2 (some .int) 1 (QI LY D cy ad) [.ref (ad 0), .int x1] M (fX12_slot n0 x1 M) :=
  CT.mk LYok hI (by decide) (Nat.le_of_ble_eq_true rfl) (fun hO => tfX12_slot n0 hO x1 M)
/-! X12_keeps -/
def fX12_keeps_32 (n0 : Nat) (M : Mem) : Option (Mem) :=
  (fX12_slot n0 (gI M 54) M).bind fun z38 =>
  (fX12_copies n0 z38.1 (0 : Int32) z38.2).bind fun z42 =>
  some (sI z42 54 ((gI z42 54) + (1 : Int32)))
def fX12_keeps (n0 : Nat) (M : Mem) : Option (Mem) :=
  if (gI M 54) = (20 : Int32) then
    if (20 : Int32) = 0 then none else
    bnd (sI M 53 (rem32 ((gI M 53) + (1 : Int32)) (20 : Int32))) fun M19 =>
    fX12_keeps_32 n0 (sI M19 54 ((gI M19 54) - (1 : Int32)))
  else
    fX12_keeps_32 n0 M
theorem tfX12_keeps_32 (n0 : Nat) (hO : OKc p (rmL 2) s m args meth c LY D cy ad cX12_keeps RX12 1 2 none) (M : Mem) : BL p l e (rmL 2) s m args below meth c LY D cy ad 1 (QV LY D cy ad) 32 [(0, .ref (ad 0))] [] M (fX12_keeps_32 n0 M) := by
  unfold fX12_keeps_32
  refine b_aload_n hO dX12_keeps_32 0 rfl rfl ?_
  refine b_aload_n hO dX12_keeps_33 0 rfl rfl ?_
  refine b_aload_n hO dX12_keeps_34 0 rfl rfl ?_
  refine b_get hO flX12_177 kLY_0 (v := .int (gI _ 54)) rfl dX12_keeps_35 ?_
  refine b_callVI hO mdX12_slot mvX12_slot w1701 (ci := 12) rfl rfl (by decide) kLY_0 (As := [.int _]) (st := [.ref _]) (ctX12_slot n0 hO.2.2.2.2.2.2.1 _ _) (Nat.le_of_ble_eq_true rfl) rfl rfl (Nat.le_of_ble_eq_true rfl) dX12_keeps_38 (fun z38 => ?_)
  refine b_iconst hO dX12_keeps_41 ic_i_0 ?_
  refine b_callVV hO mdX12_copies mvX12_copies w1705 (ci := 12) rfl rfl (by decide) kLY_0 (As := [.int _, .int _]) (st := []) (ctX12_copies n0 hO.2.2.2.2.2.2.1 _ _ _) (Nat.le_of_ble_eq_true rfl) rfl rfl (Nat.le_of_ble_eq_true rfl) dX12_keeps_42 (fun z42 => ?_)
  refine b_aload_n hO dX12_keeps_45 0 rfl rfl ?_
  refine b_dup hO dX12_keeps_46 rfl ?_
  refine b_get hO flX12_177 kLY_0 (v := .int (gI _ 54)) rfl dX12_keeps_47 ?_
  refine b_iconst hO dX12_keeps_50 ic_i_1 ?_
  refine b_iadd hO dX12_keeps_51 ?_
  refine b_putI hO flX12_177 kLY_0 rfl rfl rfl (id := 54) rfl dX12_keeps_52 ?_
  exact b_vret hO dX12_keeps_55
theorem tfX12_keeps (n0 : Nat) (hO : OKc p (rmL 2) s m args meth c LY D cy ad cX12_keeps RX12 1 2 none) (M : Mem) : BL p l e (rmL 2) s m args below meth c LY D cy ad 1 (QV LY D cy ad) 0 [(0, .ref (ad 0))] [] M (fX12_keeps n0 M) := by
  unfold fX12_keeps
  refine b_aload_n hO dX12_keeps_0 0 rfl rfl ?_
  refine b_get hO flX12_177 kLY_0 (v := .int (gI _ 54)) rfl dX12_keeps_1 ?_
  refine b_bipush hO dX12_keeps_4 ic_b_20 ?_
  refine b_icmp_ne hO dX12_keeps_6 (tgt := 32) (by decide) ?_ ?_
  · exact tfX12_keeps_32 n0 hO _
  · refine b_aload_n hO dX12_keeps_9 0 rfl rfl ?_
    refine b_aload_n hO dX12_keeps_10 0 rfl rfl ?_
    refine b_get hO flX12_174 kLY_0 (v := .int (gI _ 53)) rfl dX12_keeps_11 ?_
    refine b_iconst hO dX12_keeps_14 ic_i_1 ?_
    refine b_iadd hO dX12_keeps_15 ?_
    refine b_bipush hO dX12_keeps_16 ic_b_20 ?_
    refine b_irem hO dX12_keeps_18 ?_
    refine b_putI hO flX12_174 kLY_0 rfl rfl rfl (id := 53) rfl dX12_keeps_19 ?_
    refine b_bnd (fun M19 => ?_)
    refine b_aload_n hO dX12_keeps_22 0 rfl rfl ?_
    refine b_dup hO dX12_keeps_23 rfl ?_
    refine b_get hO flX12_177 kLY_0 (v := .int (gI _ 54)) rfl dX12_keeps_24 ?_
    refine b_iconst hO dX12_keeps_27 ic_i_1 ?_
    refine b_isub hO dX12_keeps_28 ?_
    refine b_putI hO flX12_177 kLY_0 rfl rfl rfl (id := 54) rfl dX12_keeps_29 ?_
    exact tfX12_keeps_32 n0 hO _
theorem ctX12_keeps (n0 : Nat) (hI : Inj LY ad) (M : Mem) : CT l LY D cy ad yX12_keeps cX12_keeps 1 none 2 (QV LY D cy ad) [.ref (ad 0)] M (fX12_keeps n0 M) :=
  CT.mk LYok hI (by decide) (Nat.le_of_ble_eq_true rfl) (fun hO => tfX12_keeps n0 hO M)
/-! X12_undo -/
def fX12_undo (n0 : Nat) (M : Mem) : Option (Int32 × Mem) :=
  if (gI M 54) = 0 then
    (fX12_refuses n0 (4 : Int32) M).bind fun z9 =>
    if z9.1 < 0 then
      some ((0 : Int32), z9.2)
    else
      some ((1 : Int32), z9.2)
  else
    bnd (sI M 54 ((gI M 54) - (1 : Int32))) fun M28 =>
    (fX12_slot n0 (gI M28 54) M28).bind fun z38 =>
    (fX12_copies n0 (0 : Int32) z38.1 z38.2).bind fun z41 =>
    some ((1 : Int32), z41)
theorem tfX12_undo (n0 : Nat) (hO : OKc p (rmL 2) s m args meth c LY D cy ad cX12_undo RX12 1 2 (some .boolean)) (M : Mem) : BL p l e (rmL 2) s m args below meth c LY D cy ad 1 (QI LY D cy ad) 0 [(0, .ref (ad 0))] [] M (fX12_undo n0 M) := by
  unfold fX12_undo
  refine b_aload_n hO dX12_undo_0 0 rfl rfl ?_
  refine b_get hO flX12_177 kLY_0 (v := .int (gI _ 54)) rfl dX12_undo_1 ?_
  refine b_if_ne hO dX12_undo_4 (tgt := 21) (by decide) ?_ ?_
  · refine b_aload_n hO dX12_undo_21 0 rfl rfl ?_
    refine b_dup hO dX12_undo_22 rfl ?_
    refine b_get hO flX12_177 kLY_0 (v := .int (gI _ 54)) rfl dX12_undo_23 ?_
    refine b_iconst hO dX12_undo_26 ic_i_1 ?_
    refine b_isub hO dX12_undo_27 ?_
    refine b_putI hO flX12_177 kLY_0 rfl rfl rfl (id := 54) rfl dX12_undo_28 ?_
    refine b_bnd (fun M28 => ?_)
    refine b_aload_n hO dX12_undo_31 0 rfl rfl ?_
    refine b_iconst hO dX12_undo_32 ic_i_0 ?_
    refine b_aload_n hO dX12_undo_33 0 rfl rfl ?_
    refine b_aload_n hO dX12_undo_34 0 rfl rfl ?_
    refine b_get hO flX12_177 kLY_0 (v := .int (gI _ 54)) rfl dX12_undo_35 ?_
    refine b_callVI hO mdX12_slot mvX12_slot w1701 (ci := 12) rfl rfl (by decide) kLY_0 (As := [.int _]) (st := [.int _, .ref _]) (ctX12_slot n0 hO.2.2.2.2.2.2.1 _ _) (Nat.le_of_ble_eq_true rfl) rfl rfl (Nat.le_of_ble_eq_true rfl) dX12_undo_38 (fun z38 => ?_)
    refine b_callVV hO mdX12_copies mvX12_copies w1705 (ci := 12) rfl rfl (by decide) kLY_0 (As := [.int _, .int _]) (st := []) (ctX12_copies n0 hO.2.2.2.2.2.2.1 _ _ _) (Nat.le_of_ble_eq_true rfl) rfl rfl (Nat.le_of_ble_eq_true rfl) dX12_undo_41 (fun z41 => ?_)
    refine b_iconst hO dX12_undo_44 ic_i_1 ?_
    exact b_zretc hO (Or.inr rfl) dX12_undo_45
  · refine b_aload_n hO dX12_undo_7 0 rfl rfl ?_
    refine b_iconst hO dX12_undo_8 ic_i_4 ?_
    refine b_callVI hO mdX12_refuses mvX12_refuses w1453 (ci := 12) rfl rfl (by decide) kLY_0 (As := [.int _]) (st := []) (ctX12_refuses n0 hO.2.2.2.2.2.2.1 _ _) (Nat.le_of_ble_eq_true rfl) rfl rfl (Nat.le_of_ble_eq_true rfl) dX12_undo_9 (fun z9 => ?_)
    refine b_if_lt hO dX12_undo_12 (tgt := 19) (by decide) ?_ ?_
    · refine b_iconst hO dX12_undo_19 ic_i_0 ?_
      exact b_zretc hO (Or.inl rfl) dX12_undo_20
    · refine b_iconst hO dX12_undo_15 ic_i_1 ?_
      refine b_goto hO dX12_undo_16 (tgt := 20) (by decide) ?_
      exact b_zretc hO (Or.inr rfl) dX12_undo_20
theorem ctX12_undo (n0 : Nat) (hI : Inj LY ad) (M : Mem) : CT l LY D cy ad yX12_undo cX12_undo 1 (some .boolean) 2 (QI LY D cy ad) [.ref (ad 0)] M (fX12_undo n0 M) :=
  CT.mk LYok hI (by decide) (Nat.le_of_ble_eq_true rfl) (fun hO => tfX12_undo n0 hO M)
/-! X12_puts -/
def fX12_puts (n0 : Nat) (x1 : Int32) (x2 : Int32) (x3 : Int32) (M : Mem) : Option (Mem) :=
  if oob (((5 : Int32) * x1) + x2) 110 then none else
  bnd (sA M 29 (Int32.toNatClampNeg (((5 : Int32) * x1) + x2)) x3) fun M10 =>
  if oob (((5 : Int32) * x1) + x2) 110 then none else
  some (sA M10 30 (Int32.toNatClampNeg (((5 : Int32) * x1) + x2)) (0 : Int32))
theorem tfX12_puts (n0 : Nat) (hO : OKc p (rmL 1) s m args meth c LY D cy ad cX12_puts RX12 4 1 none) (x1 : Int32) (x2 : Int32) (x3 : Int32) (M : Mem) : BL p l e (rmL 1) s m args below meth c LY D cy ad 4 (QV LY D cy ad) 0 [(0, .ref (ad 0)), (1, .int x1), (2, .int x2), (3, .int x3)] [] M (fX12_puts n0 x1 x2 x3 M) := by
  unfold fX12_puts
  refine b_aload_n hO dX12_puts_0 0 rfl rfl ?_
  refine b_get hO flX12_159 kLY_0 (v := .ref (ad 29)) rfl dX12_puts_1 ?_
  refine b_iconst hO dX12_puts_4 ic_i_5 ?_
  refine b_iload_n hO dX12_puts_5 1 rfl rfl ?_
  refine b_imul hO dX12_puts_6 ?_
  refine b_iload_n hO dX12_puts_7 2 rfl rfl ?_
  refine b_iadd hO dX12_puts_8 ?_
  refine b_iload_n hO dX12_puts_9 3 rfl rfl ?_
  refine b_iast hO kLY_29 (n := 110) rfl dX12_puts_10 ?_
  refine b_bnd (fun M10 => ?_)
  refine b_aload_n hO dX12_puts_11 0 rfl rfl ?_
  refine b_get hO flX12_162 kLY_0 (v := .ref (ad 30)) rfl dX12_puts_12 ?_
  refine b_iconst hO dX12_puts_15 ic_i_5 ?_
  refine b_iload_n hO dX12_puts_16 1 rfl rfl ?_
  refine b_imul hO dX12_puts_17 ?_
  refine b_iload_n hO dX12_puts_18 2 rfl rfl ?_
  refine b_iadd hO dX12_puts_19 ?_
  refine b_iconst hO dX12_puts_20 ic_i_0 ?_
  refine b_iast hO kLY_30 (n := 110) rfl dX12_puts_21 ?_
  exact b_vret hO dX12_puts_22
theorem ctX12_puts (n0 : Nat) (hI : Inj LY ad) (x1 : Int32) (x2 : Int32) (x3 : Int32) (M : Mem) : CT l LY D cy ad yX12_puts cX12_puts 4 none 1 (QV LY D cy ad) [.ref (ad 0), .int x1, .int x2, .int x3] M (fX12_puts n0 x1 x2 x3 M) :=
  CT.mk LYok hI (by decide) (Nat.le_of_ble_eq_true rfl) (fun hO => tfX12_puts n0 hO x1 x2 x3 M)
/-! X12_isGone -/
def fX12_isGone (n0 : Nat) (x1 : Int32) (x2 : Int32) (M : Mem) : Option (Int32 × Mem) :=
  (fX12_lays n0 x1 x2 M).bind fun z3 =>
  if oob (((5 : Int32) * x1) + x2) 110 then none else
  if (gA z3 29 (Int32.toNatClampNeg (((5 : Int32) * x1) + x2))) = (-1 : Int32) then
    some ((0 : Int32), z3)
  else
    (fX12_isTold n0 (1 : Int32) z3).bind fun z22 =>
    if z22.1 = 0 then
      if oob (2 : Int32) 10 then none else
      if oob (6 : Int32) 10 then none else
      if (gA z22.2 35 (Int32.toNatClampNeg (2 : Int32))) < (gA z22.2 35 (Int32.toNatClampNeg (6 : Int32))) then
        some ((0 : Int32), z22.2)
      else
        some ((1 : Int32), z22.2)
    else
      (fX12_reckons n0 (1 : Int32) z22.2).bind fun z30 =>
      if (lg_cmp z30.1 (1 : Int64)) = 0 then
        some ((1 : Int32), z30.2)
      else
        some ((0 : Int32), z30.2)
theorem tfX12_isGone (n0 : Nat) (hO : OKc p (rmL 4) s m args meth c LY D cy ad cX12_isGone RX12 3 4 (some .boolean)) (x1 : Int32) (x2 : Int32) (M : Mem) : BL p l e (rmL 4) s m args below meth c LY D cy ad 3 (QI LY D cy ad) 0 [(0, .ref (ad 0)), (1, .int x1), (2, .int x2)] [] M (fX12_isGone n0 x1 x2 M) := by
  unfold fX12_isGone
  refine b_aload_n hO dX12_isGone_0 0 rfl rfl ?_
  refine b_iload_n hO dX12_isGone_1 1 rfl rfl ?_
  refine b_iload_n hO dX12_isGone_2 2 rfl rfl ?_
  refine b_callVV hO mdX12_lays mvX12_lays w1661 (ci := 12) rfl rfl (by decide) kLY_0 (As := [.int _, .int _]) (st := []) (ctX12_lays n0 hO.2.2.2.2.2.2.1 _ _ _) (Nat.le_of_ble_eq_true rfl) rfl rfl (Nat.le_of_ble_eq_true rfl) dX12_isGone_3 (fun z3 => ?_)
  refine b_aload_n hO dX12_isGone_6 0 rfl rfl ?_
  refine b_get hO flX12_159 kLY_0 (v := .ref (ad 29)) rfl dX12_isGone_7 ?_
  refine b_iconst hO dX12_isGone_10 ic_i_5 ?_
  refine b_iload_n hO dX12_isGone_11 1 rfl rfl ?_
  refine b_imul hO dX12_isGone_12 ?_
  refine b_iload_n hO dX12_isGone_13 2 rfl rfl ?_
  refine b_iadd hO dX12_isGone_14 ?_
  refine b_iald hO kLY_29 (n := 110) rfl dX12_isGone_15 ?_
  refine b_iconst hO dX12_isGone_16 ic_i_m1 ?_
  refine b_icmp_eq hO dX12_isGone_17 (tgt := 61) (by decide) ?_ ?_
  · refine b_iconst hO dX12_isGone_61 ic_i_0 ?_
    exact b_zretc hO (Or.inl rfl) dX12_isGone_62
  · refine b_aload_n hO dX12_isGone_20 0 rfl rfl ?_
    refine b_iconst hO dX12_isGone_21 ic_i_1 ?_
    refine b_callVI hO mdX12_isTold mvX12_isTold w1665 (ci := 12) rfl rfl (by decide) kLY_0 (As := [.int _]) (st := []) (ctX12_isTold n0 hO.2.2.2.2.2.2.1 _ _) (Nat.le_of_ble_eq_true rfl) rfl rfl (Nat.le_of_ble_eq_true rfl) dX12_isGone_22 (fun z22 => ?_)
    refine b_if_eq hO dX12_isGone_25 (tgt := 41) (by decide) ?_ ?_
    · refine b_aload_n hO dX12_isGone_41 0 rfl rfl ?_
      refine b_get hO flX12_186 kLY_0 (v := .ref (ad 35)) rfl dX12_isGone_42 ?_
      refine b_iconst hO dX12_isGone_45 ic_i_2 ?_
      refine b_iald hO kLY_35 (n := 10) rfl dX12_isGone_46 ?_
      refine b_aload_n hO dX12_isGone_47 0 rfl rfl ?_
      refine b_get hO flX12_186 kLY_0 (v := .ref (ad 35)) rfl dX12_isGone_48 ?_
      refine b_bipush hO dX12_isGone_51 ic_b_6 ?_
      refine b_iald hO kLY_35 (n := 10) rfl dX12_isGone_53 ?_
      refine b_icmp_lt hO dX12_isGone_54 (tgt := 61) (by decide) ?_ ?_
      · refine b_iconst hO dX12_isGone_61 ic_i_0 ?_
        exact b_zretc hO (Or.inl rfl) dX12_isGone_62
      · refine b_iconst hO dX12_isGone_57 ic_i_1 ?_
        refine b_goto hO dX12_isGone_58 (tgt := 62) (by decide) ?_
        exact b_zretc hO (Or.inr rfl) dX12_isGone_62
    · refine b_aload_n hO dX12_isGone_28 0 rfl rfl ?_
      refine b_iconst hO dX12_isGone_29 ic_i_1 ?_
      refine b_callVL hO mdX12_reckons mvX12_reckons w1669 (ci := 12) rfl rfl (by decide) kLY_0 (As := [.int _]) (st := []) (ctX12_reckons n0 hO.2.2.2.2.2.2.1 _ _) (Nat.le_of_ble_eq_true rfl) rfl rfl (Nat.le_of_ble_eq_true rfl) dX12_isGone_30 (fun z30 => ?_)
      refine b_lconst hO dX12_isGone_33 (v := 1) rfl ?_
      refine b_lcmp hO dX12_isGone_34 ?_
      refine b_if_ne hO dX12_isGone_35 (tgt := 61) (by decide) ?_ ?_
      · refine b_iconst hO dX12_isGone_61 ic_i_0 ?_
        exact b_zretc hO (Or.inl rfl) dX12_isGone_62
      · refine b_goto hO dX12_isGone_38 (tgt := 57) (by decide) ?_
        refine b_iconst hO dX12_isGone_57 ic_i_1 ?_
        refine b_goto hO dX12_isGone_58 (tgt := 62) (by decide) ?_
        exact b_zretc hO (Or.inr rfl) dX12_isGone_62
theorem ctX12_isGone (n0 : Nat) (hI : Inj LY ad) (x1 : Int32) (x2 : Int32) (M : Mem) : CT l LY D cy ad yX12_isGone cX12_isGone 3 (some .boolean) 4 (QI LY D cy ad) [.ref (ad 0), .int x1, .int x2] M (fX12_isGone n0 x1 x2 M) :=
  CT.mk LYok hI (by decide) (Nat.le_of_ble_eq_true rfl) (fun hO => tfX12_isGone n0 hO x1 x2 M)
/-! X12_ticks -/
def fX12_ticks_71 (n0 : Nat) (k12 : Int32 → Int32 → Mem → Option (Mem)) (x1 : Int32) (x2 : Int32) (M : Mem) : Option (Mem) :=
  k12 x1 (x2 + (1 : Int32)) M
def fX12_ticks_55 (n0 : Nat) (k12 : Int32 → Int32 → Mem → Option (Mem)) (x1 : Int32) (x2 : Int32) (M : Mem) : Option (Mem) :=
  (fX12_isGone n0 x1 x2 M).bind fun z58 =>
  if z58.1 = 0 then
    fX12_ticks_71 n0 k12 x1 x2 z58.2
  else
    (fX12_puts n0 x1 x2 (-1 : Int32) z58.2).bind fun z68 =>
    fX12_ticks_71 n0 k12 x1 x2 z68
def bX12_ticks_12 (n0 : Nat) (k12 : Int32 → Int32 → Mem → Option (Mem)) (x1 : Int32) (x2 : Int32) (M : Mem) : Option (Mem) :=
  if oob (gI M 13) 2 then none else
  if (gA M 5 (Int32.toNatClampNeg (gI M 13))) ≤ x2 then
    some M
  else
    if oob (((5 : Int32) * x1) + x2) 110 then none else
    if (999 : Int32) ≤ (gA M 30 (Int32.toNatClampNeg (((5 : Int32) * x1) + x2))) then
      fX12_ticks_55 n0 k12 x1 x2 M
    else
      if oob (((5 : Int32) * x1) + x2) 110 then none else
      if oob (((5 : Int32) * x1) + x2) 110 then none else
      fX12_ticks_55 n0 k12 x1 x2 (sA M 30 (Int32.toNatClampNeg (((5 : Int32) * x1) + x2)) ((gA M 30 (Int32.toNatClampNeg (((5 : Int32) * x1) + x2))) + (1 : Int32)))
def fX12_ticks_12 (n0 : Nat) : Int32 → Int32 → Mem → Option (Mem) := loopN (bX12_ticks_12 n0) (fun _ _ _ => none) n0
def fX12_ticks (n0 : Nat) (x1 : Int32) (M : Mem) : Option (Mem) :=
  if oob x1 22 then none else
  if oob x1 22 then none else
  bnd (sA M 28 (Int32.toNatClampNeg x1) ((gA M 28 (Int32.toNatClampNeg x1)) + (1 : Int32))) fun M9 =>
  fX12_ticks_12 n0 x1 (0 : Int32) M9
theorem tfX12_ticks_71 (n0 : Nat) (hO : OKc p (rmL 5) s m args meth c LY D cy ad cX12_ticks RX12 3 5 none) (k12 : Int32 → Int32 → Mem → Option (Mem)) (hk12 : ∀ (x1 : Int32) (x2 : Int32) (M : Mem), BL p l e (rmL 5) s m args below meth c LY D cy ad 3 (QV LY D cy ad) 12 [(0, .ref (ad 0)), (1, .int x1), (2, .int x2)] [] M (k12 x1 x2 M)) (x1 : Int32) (x2 : Int32) (M : Mem) : BL p l e (rmL 5) s m args below meth c LY D cy ad 3 (QV LY D cy ad) 71 [(0, .ref (ad 0)), (1, .int x1), (2, .int x2)] [] M (fX12_ticks_71 n0 k12 x1 x2 M) := by
  unfold fX12_ticks_71
  refine b_iinc hO dX12_ticks_71 2 rfl ic_i_1 (by decide) (lv' := [(2, .int _), (0, .ref _), (1, .int _)]) rfl ?_
  refine b_goto hO dX12_ticks_74 (tgt := 12) (by decide) ?_
  refine b_sub [1, 2, 0] rfl ?_
  exact hk12 _ _ _
theorem tfX12_ticks_55 (n0 : Nat) (hO : OKc p (rmL 5) s m args meth c LY D cy ad cX12_ticks RX12 3 5 none) (k12 : Int32 → Int32 → Mem → Option (Mem)) (hk12 : ∀ (x1 : Int32) (x2 : Int32) (M : Mem), BL p l e (rmL 5) s m args below meth c LY D cy ad 3 (QV LY D cy ad) 12 [(0, .ref (ad 0)), (1, .int x1), (2, .int x2)] [] M (k12 x1 x2 M)) (x1 : Int32) (x2 : Int32) (M : Mem) : BL p l e (rmL 5) s m args below meth c LY D cy ad 3 (QV LY D cy ad) 55 [(0, .ref (ad 0)), (1, .int x1), (2, .int x2)] [] M (fX12_ticks_55 n0 k12 x1 x2 M) := by
  unfold fX12_ticks_55
  refine b_aload_n hO dX12_ticks_55 0 rfl rfl ?_
  refine b_iload_n hO dX12_ticks_56 1 rfl rfl ?_
  refine b_iload_n hO dX12_ticks_57 2 rfl rfl ?_
  refine b_callVI hO mdX12_isGone mvX12_isGone w1761 (ci := 12) rfl rfl (by decide) kLY_0 (As := [.int _, .int _]) (st := []) (ctX12_isGone n0 hO.2.2.2.2.2.2.1 _ _ _) (Nat.le_of_ble_eq_true rfl) rfl rfl (Nat.le_of_ble_eq_true rfl) dX12_ticks_58 (fun z58 => ?_)
  refine b_if_eq hO dX12_ticks_61 (tgt := 71) (by decide) ?_ ?_
  · exact tfX12_ticks_71 n0 hO k12 hk12 _ _ _
  · refine b_aload_n hO dX12_ticks_64 0 rfl rfl ?_
    refine b_iload_n hO dX12_ticks_65 1 rfl rfl ?_
    refine b_iload_n hO dX12_ticks_66 2 rfl rfl ?_
    refine b_iconst hO dX12_ticks_67 ic_i_m1 ?_
    refine b_callVV hO mdX12_puts mvX12_puts w1765 (ci := 12) rfl rfl (by decide) kLY_0 (As := [.int _, .int _, .int _]) (st := []) (ctX12_puts n0 hO.2.2.2.2.2.2.1 _ _ _ _) (Nat.le_of_ble_eq_true rfl) rfl rfl (Nat.le_of_ble_eq_true rfl) dX12_ticks_68 (fun z68 => ?_)
    exact tfX12_ticks_71 n0 hO k12 hk12 _ _ _
theorem tbX12_ticks_12 (n0 : Nat) (hO : OKc p (rmL 5) s m args meth c LY D cy ad cX12_ticks RX12 3 5 none) (k12 : Int32 → Int32 → Mem → Option (Mem)) (hk12 : ∀ (x1 : Int32) (x2 : Int32) (M : Mem), BL p l e (rmL 5) s m args below meth c LY D cy ad 3 (QV LY D cy ad) 12 [(0, .ref (ad 0)), (1, .int x1), (2, .int x2)] [] M (k12 x1 x2 M)) (x1 : Int32) (x2 : Int32) (M : Mem) : BL p l e (rmL 5) s m args below meth c LY D cy ad 3 (QV LY D cy ad) 12 [(0, .ref (ad 0)), (1, .int x1), (2, .int x2)] [] M (bX12_ticks_12 n0 k12 x1 x2 M) := by
  unfold bX12_ticks_12
  refine b_iload_n hO dX12_ticks_12 2 rfl rfl ?_
  refine b_aload_n hO dX12_ticks_13 0 rfl rfl ?_
  refine b_get hO flX12_63 kLY_0 (v := .ref (ad 5)) rfl dX12_ticks_14 ?_
  refine b_aload_n hO dX12_ticks_17 0 rfl rfl ?_
  refine b_get hO flX12_51 kLY_0 (v := .int (gI _ 13)) rfl dX12_ticks_18 ?_
  refine b_iald hO kLY_5 (n := 2) rfl dX12_ticks_21 ?_
  refine b_icmp_ge hO dX12_ticks_22 (tgt := 77) (by decide) ?_ ?_
  · exact b_vret hO dX12_ticks_77
  · refine b_aload_n hO dX12_ticks_25 0 rfl rfl ?_
    refine b_get hO flX12_162 kLY_0 (v := .ref (ad 30)) rfl dX12_ticks_26 ?_
    refine b_iconst hO dX12_ticks_29 ic_i_5 ?_
    refine b_iload_n hO dX12_ticks_30 1 rfl rfl ?_
    refine b_imul hO dX12_ticks_31 ?_
    refine b_iload_n hO dX12_ticks_32 2 rfl rfl ?_
    refine b_iadd hO dX12_ticks_33 ?_
    refine b_iald hO kLY_30 (n := 110) rfl dX12_ticks_34 ?_
    refine b_sipush hO dX12_ticks_35 ic_s_999 ?_
    refine b_icmp_ge hO dX12_ticks_38 (tgt := 55) (by decide) ?_ ?_
    · exact tfX12_ticks_55 n0 hO k12 hk12 _ _ _
    · refine b_aload_n hO dX12_ticks_41 0 rfl rfl ?_
      refine b_get hO flX12_162 kLY_0 (v := .ref (ad 30)) rfl dX12_ticks_42 ?_
      refine b_iconst hO dX12_ticks_45 ic_i_5 ?_
      refine b_iload_n hO dX12_ticks_46 1 rfl rfl ?_
      refine b_imul hO dX12_ticks_47 ?_
      refine b_iload_n hO dX12_ticks_48 2 rfl rfl ?_
      refine b_iadd hO dX12_ticks_49 ?_
      refine b_dup2 hO dX12_ticks_50 rfl rfl ?_
      refine b_iald hO kLY_30 (n := 110) rfl dX12_ticks_51 ?_
      refine b_iconst hO dX12_ticks_52 ic_i_1 ?_
      refine b_iadd hO dX12_ticks_53 ?_
      refine b_iast hO kLY_30 (n := 110) rfl dX12_ticks_54 ?_
      exact tfX12_ticks_55 n0 hO k12 hk12 _ _ _
theorem lX12_ticks_12 (n0 : Nat) (hO : OKc p (rmL 5) s m args meth c LY D cy ad cX12_ticks RX12 3 5 none) : ∀ (w : Nat) (x1 : Int32) (x2 : Int32) (M : Mem), BL p l e (rmL 5) s m args below meth c LY D cy ad 3 (QV LY D cy ad) 12 [(0, .ref (ad 0)), (1, .int x1), (2, .int x2)] [] M (loopN (bX12_ticks_12 n0) (fun _ _ _ => none) w x1 x2 M) := by
  intro w
  induction w with
  | zero =>
    intros
    exact b_none
  | succ w ih =>
    intro x1 x2 M
    exact tbX12_ticks_12 n0 hO _ ih x1 x2 M
theorem tfX12_ticks_12 (n0 : Nat) (hO : OKc p (rmL 5) s m args meth c LY D cy ad cX12_ticks RX12 3 5 none) (x1 : Int32) (x2 : Int32) (M : Mem) : BL p l e (rmL 5) s m args below meth c LY D cy ad 3 (QV LY D cy ad) 12 [(0, .ref (ad 0)), (1, .int x1), (2, .int x2)] [] M (fX12_ticks_12 n0 x1 x2 M) := lX12_ticks_12 n0 hO n0 x1 x2 M
theorem tfX12_ticks (n0 : Nat) (hO : OKc p (rmL 5) s m args meth c LY D cy ad cX12_ticks RX12 3 5 none) (x1 : Int32) (M : Mem) : BL p l e (rmL 5) s m args below meth c LY D cy ad 3 (QV LY D cy ad) 0 [(0, .ref (ad 0)), (1, .int x1)] [] M (fX12_ticks n0 x1 M) := by
  unfold fX12_ticks
  refine b_aload_n hO dX12_ticks_0 0 rfl rfl ?_
  refine b_get hO flX12_156 kLY_0 (v := .ref (ad 28)) rfl dX12_ticks_1 ?_
  refine b_iload_n hO dX12_ticks_4 1 rfl rfl ?_
  refine b_dup2 hO dX12_ticks_5 rfl rfl ?_
  refine b_iald hO kLY_28 (n := 22) rfl dX12_ticks_6 ?_
  refine b_iconst hO dX12_ticks_7 ic_i_1 ?_
  refine b_iadd hO dX12_ticks_8 ?_
  refine b_iast hO kLY_28 (n := 22) rfl dX12_ticks_9 ?_
  refine b_bnd (fun M9 => ?_)
  refine b_iconst hO dX12_ticks_10 ic_i_0 ?_
  refine b_istore_n hO dX12_ticks_11 rfl (by decide) (lv' := [(2, .int _), (0, .ref _), (1, .int _)]) rfl ?_
  refine b_sub [1, 2, 0] rfl ?_
  exact tfX12_ticks_12 n0 hO _ _ _
theorem ctX12_ticks (n0 : Nat) (hI : Inj LY ad) (x1 : Int32) (M : Mem) : CT l LY D cy ad yX12_ticks cX12_ticks 3 none 5 (QV LY D cy ad) [.ref (ad 0), .int x1] M (fX12_ticks n0 x1 M) :=
  CT.mk LYok hI (by decide) (Nat.le_of_ble_eq_true rfl) (fun hO => tfX12_ticks n0 hO x1 M)
/-! X12_passes -/
def fX12_passes (n0 : Nat) (x1 : Int32) (M : Mem) : Option (Int32 × Mem) :=
  (fX12_ticks n0 x1 M).bind fun z2 =>
  (fX12_finishesDoings n0 x1 z2).bind fun z7 =>
  some (z7.1, z7.2)
theorem tfX12_passes (n0 : Nat) (hO : OKc p (rmL 6) s m args meth c LY D cy ad cX12_passes RX12 2 6 (some .int)) (x1 : Int32) (M : Mem) : BL p l e (rmL 6) s m args below meth c LY D cy ad 2 (QI LY D cy ad) 0 [(0, .ref (ad 0)), (1, .int x1)] [] M (fX12_passes n0 x1 M) := by
  unfold fX12_passes
  refine b_aload_n hO dX12_passes_0 0 rfl rfl ?_
  refine b_iload_n hO dX12_passes_1 1 rfl rfl ?_
  refine b_callVV hO mdX12_ticks mvX12_ticks w1757 (ci := 12) rfl rfl (by decide) kLY_0 (As := [.int _]) (st := []) (ctX12_ticks n0 hO.2.2.2.2.2.2.1 _ _) (Nat.le_of_ble_eq_true rfl) rfl rfl (Nat.le_of_ble_eq_true rfl) dX12_passes_2 (fun z2 => ?_)
  refine b_aload_n hO dX12_passes_5 0 rfl rfl ?_
  refine b_iload_n hO dX12_passes_6 1 rfl rfl ?_
  refine b_callVI hO mdX12_finishesDoings mvX12_finishesDoings w1653 (ci := 12) rfl rfl (by decide) kLY_0 (As := [.int _]) (st := []) (ctX12_finishesDoings n0 hO.2.2.2.2.2.2.1 _ _) (Nat.le_of_ble_eq_true rfl) rfl rfl (Nat.le_of_ble_eq_true rfl) dX12_passes_7 (fun z7 => ?_)
  exact b_iret hO dX12_passes_10
theorem ctX12_passes (n0 : Nat) (hI : Inj LY ad) (x1 : Int32) (M : Mem) : CT l LY D cy ad yX12_passes cX12_passes 2 (some .int) 6 (QI LY D cy ad) [.ref (ad 0), .int x1] M (fX12_passes n0 x1 M) :=
  CT.mk LYok hI (by decide) (Nat.le_of_ble_eq_true rfl) (fun hO => tfX12_passes n0 hO x1 M)
/-! X12_bits -/
def bX12_bits_4 (n0 : Nat) (k4 : Int32 → Int32 → Mem → Option (Int32 × Mem)) (x1 : Int32) (x2 : Int32) (M : Mem) : Option (Int32 × Mem) :=
  if x2 = 0 then
    some (x1, M)
  else
    bnd (x2 &&& (x2 - (1 : Int32))) fun x2_16 =>
    k4 (x1 + (1 : Int32)) x2_16 M
def fX12_bits_4 (n0 : Nat) : Int32 → Int32 → Mem → Option (Int32 × Mem) := loopN (bX12_bits_4 n0) (fun _ _ _ => none) n0
def fX12_bits (n0 : Nat) (x0 : Int32) (M : Mem) : Option (Int32 × Mem) :=
  fX12_bits_4 n0 (0 : Int32) x0 M
theorem tbX12_bits_4 (n0 : Nat) (hO : OKc p (rmL 1) s m args meth c LY D cy ad cX12_bits RX12 3 1 (some .int)) (k4 : Int32 → Int32 → Mem → Option (Int32 × Mem)) (hk4 : ∀ (x1 : Int32) (x2 : Int32) (M : Mem), BL p l e (rmL 1) s m args below meth c LY D cy ad 3 (QI LY D cy ad) 4 [(1, .int x1), (2, .int x2)] [] M (k4 x1 x2 M)) (x1 : Int32) (x2 : Int32) (M : Mem) : BL p l e (rmL 1) s m args below meth c LY D cy ad 3 (QI LY D cy ad) 4 [(1, .int x1), (2, .int x2)] [] M (bX12_bits_4 n0 k4 x1 x2 M) := by
  unfold bX12_bits_4
  refine b_iload_n hO dX12_bits_4 1 rfl rfl ?_
  refine b_if_eq hO dX12_bits_5 (tgt := 20) (by decide) ?_ ?_
  · refine b_iload_n hO dX12_bits_20 0 rfl rfl ?_
    exact b_iret hO dX12_bits_21
  · refine b_iinc hO dX12_bits_8 0 rfl ic_i_1 (by decide) (lv' := [(1, .int _), (2, .int _)]) rfl ?_
    refine b_iload_n hO dX12_bits_11 1 rfl rfl ?_
    refine b_iload_n hO dX12_bits_12 1 rfl rfl ?_
    refine b_iconst hO dX12_bits_13 ic_i_1 ?_
    refine b_isub hO dX12_bits_14 ?_
    refine b_iand hO dX12_bits_15 ?_
    refine b_topI (fun x2_16 => ?_)
    refine b_istore_n hO dX12_bits_16 rfl (by decide) (lv' := [(2, .int _), (1, .int _)]) rfl ?_
    refine b_goto hO dX12_bits_17 (tgt := 4) (by decide) ?_
    refine b_sub [1, 0] rfl ?_
    exact hk4 _ _ _
theorem lX12_bits_4 (n0 : Nat) (hO : OKc p (rmL 1) s m args meth c LY D cy ad cX12_bits RX12 3 1 (some .int)) : ∀ (w : Nat) (x1 : Int32) (x2 : Int32) (M : Mem), BL p l e (rmL 1) s m args below meth c LY D cy ad 3 (QI LY D cy ad) 4 [(1, .int x1), (2, .int x2)] [] M (loopN (bX12_bits_4 n0) (fun _ _ _ => none) w x1 x2 M) := by
  intro w
  induction w with
  | zero =>
    intros
    exact b_none
  | succ w ih =>
    intro x1 x2 M
    exact tbX12_bits_4 n0 hO _ ih x1 x2 M
theorem tfX12_bits_4 (n0 : Nat) (hO : OKc p (rmL 1) s m args meth c LY D cy ad cX12_bits RX12 3 1 (some .int)) (x1 : Int32) (x2 : Int32) (M : Mem) : BL p l e (rmL 1) s m args below meth c LY D cy ad 3 (QI LY D cy ad) 4 [(1, .int x1), (2, .int x2)] [] M (fX12_bits_4 n0 x1 x2 M) := lX12_bits_4 n0 hO n0 x1 x2 M
theorem tfX12_bits (n0 : Nat) (hO : OKc p (rmL 1) s m args meth c LY D cy ad cX12_bits RX12 3 1 (some .int)) (x0 : Int32) (M : Mem) : BL p l e (rmL 1) s m args below meth c LY D cy ad 3 (QI LY D cy ad) 0 [(0, .int x0)] [] M (fX12_bits n0 x0 M) := by
  unfold fX12_bits
  refine b_iconst hO dX12_bits_0 ic_i_0 ?_
  refine b_istore_n hO dX12_bits_1 rfl (by decide) (lv' := [(1, .int _), (0, .int _)]) rfl ?_
  refine b_iload_n hO dX12_bits_2 1 rfl rfl ?_
  refine b_istore_n hO dX12_bits_3 rfl (by decide) (lv' := [(2, .int _), (1, .int _), (0, .int _)]) rfl ?_
  refine b_sub [1, 0] rfl ?_
  exact tfX12_bits_4 n0 hO _ _ _
theorem ctX12_bits (n0 : Nat) (hI : Inj LY ad) (x0 : Int32) (M : Mem) : CT l LY D cy ad yX12_bits cX12_bits 3 (some .int) 1 (QI LY D cy ad) [.int x0] M (fX12_bits n0 x0 M) :=
  CT.mk LYok hI (by decide) (Nat.le_of_ble_eq_true rfl) (fun hO => tfX12_bits n0 hO x0 M)
/-! X12_isThing -/
def fX12_isThing (n0 : Nat) (x1 : Int32) (M : Mem) : Option (Int32 × Mem) :=
  if x1 < 0 then
    some ((0 : Int32), M)
  else
    if oob (gI M 13) 2 then none else
    if (gA M 2 (Int32.toNatClampNeg (gI M 13))) ≤ x1 then
      some ((0 : Int32), M)
    else
      some ((1 : Int32), M)
theorem tfX12_isThing (n0 : Nat) (hO : OKc p (rmL 1) s m args meth c LY D cy ad cX12_isThing RX12 2 1 (some .boolean)) (x1 : Int32) (M : Mem) : BL p l e (rmL 1) s m args below meth c LY D cy ad 2 (QI LY D cy ad) 0 [(0, .ref (ad 0)), (1, .int x1)] [] M (fX12_isThing n0 x1 M) := by
  unfold fX12_isThing
  refine b_iload_n hO dX12_isThing_0 1 rfl rfl ?_
  refine b_if_lt hO dX12_isThing_1 (tgt := 21) (by decide) ?_ ?_
  · refine b_iconst hO dX12_isThing_21 ic_i_0 ?_
    exact b_zretc hO (Or.inl rfl) dX12_isThing_22
  · refine b_iload_n hO dX12_isThing_4 1 rfl rfl ?_
    refine b_aload_n hO dX12_isThing_5 0 rfl rfl ?_
    refine b_get hO flX12_54 kLY_0 (v := .ref (ad 2)) rfl dX12_isThing_6 ?_
    refine b_aload_n hO dX12_isThing_9 0 rfl rfl ?_
    refine b_get hO flX12_51 kLY_0 (v := .int (gI _ 13)) rfl dX12_isThing_10 ?_
    refine b_iald hO kLY_2 (n := 2) rfl dX12_isThing_13 ?_
    refine b_icmp_ge hO dX12_isThing_14 (tgt := 21) (by decide) ?_ ?_
    · refine b_iconst hO dX12_isThing_21 ic_i_0 ?_
      exact b_zretc hO (Or.inl rfl) dX12_isThing_22
    · refine b_iconst hO dX12_isThing_17 ic_i_1 ?_
      refine b_goto hO dX12_isThing_18 (tgt := 22) (by decide) ?_
      exact b_zretc hO (Or.inr rfl) dX12_isThing_22
theorem ctX12_isThing (n0 : Nat) (hI : Inj LY ad) (x1 : Int32) (M : Mem) : CT l LY D cy ad yX12_isThing cX12_isThing 2 (some .boolean) 1 (QI LY D cy ad) [.ref (ad 0), .int x1] M (fX12_isThing n0 x1 M) :=
  CT.mk LYok hI (by decide) (Nat.le_of_ble_eq_true rfl) (fun hO => tfX12_isThing n0 hO x1 M)
/-! X12_isCorner -/
def fX12_isCorner (n0 : Nat) (x1 : Int32) (M : Mem) : Option (Int32 × Mem) :=
  if x1 < 0 then
    some ((0 : Int32), M)
  else
    if oob (gI M 13) 2 then none else
    if (gA M 5 (Int32.toNatClampNeg (gI M 13))) ≤ x1 then
      some ((0 : Int32), M)
    else
      some ((1 : Int32), M)
theorem tfX12_isCorner (n0 : Nat) (hO : OKc p (rmL 1) s m args meth c LY D cy ad cX12_isCorner RX12 2 1 (some .boolean)) (x1 : Int32) (M : Mem) : BL p l e (rmL 1) s m args below meth c LY D cy ad 2 (QI LY D cy ad) 0 [(0, .ref (ad 0)), (1, .int x1)] [] M (fX12_isCorner n0 x1 M) := by
  unfold fX12_isCorner
  refine b_iload_n hO dX12_isCorner_0 1 rfl rfl ?_
  refine b_if_lt hO dX12_isCorner_1 (tgt := 21) (by decide) ?_ ?_
  · refine b_iconst hO dX12_isCorner_21 ic_i_0 ?_
    exact b_zretc hO (Or.inl rfl) dX12_isCorner_22
  · refine b_iload_n hO dX12_isCorner_4 1 rfl rfl ?_
    refine b_aload_n hO dX12_isCorner_5 0 rfl rfl ?_
    refine b_get hO flX12_63 kLY_0 (v := .ref (ad 5)) rfl dX12_isCorner_6 ?_
    refine b_aload_n hO dX12_isCorner_9 0 rfl rfl ?_
    refine b_get hO flX12_51 kLY_0 (v := .int (gI _ 13)) rfl dX12_isCorner_10 ?_
    refine b_iald hO kLY_5 (n := 2) rfl dX12_isCorner_13 ?_
    refine b_icmp_ge hO dX12_isCorner_14 (tgt := 21) (by decide) ?_ ?_
    · refine b_iconst hO dX12_isCorner_21 ic_i_0 ?_
      exact b_zretc hO (Or.inl rfl) dX12_isCorner_22
    · refine b_iconst hO dX12_isCorner_17 ic_i_1 ?_
      refine b_goto hO dX12_isCorner_18 (tgt := 22) (by decide) ?_
      exact b_zretc hO (Or.inr rfl) dX12_isCorner_22
theorem ctX12_isCorner (n0 : Nat) (hI : Inj LY ad) (x1 : Int32) (M : Mem) : CT l LY D cy ad yX12_isCorner cX12_isCorner 2 (some .boolean) 1 (QI LY D cy ad) [.ref (ad 0), .int x1] M (fX12_isCorner n0 x1 M) :=
  CT.mk LYok hI (by decide) (Nat.le_of_ble_eq_true rfl) (fun hO => tfX12_isCorner n0 hO x1 M)
/-! X12_isDoing -/
def fX12_isDoing (n0 : Nat) (x1 : Int32) (M : Mem) : Option (Int32 × Mem) :=
  if x1 < 0 then
    some ((0 : Int32), M)
  else
    if oob (gI M 13) 2 then none else
    if (gA M 10 (Int32.toNatClampNeg (gI M 13))) ≤ x1 then
      some ((0 : Int32), M)
    else
      some ((1 : Int32), M)
theorem tfX12_isDoing (n0 : Nat) (hO : OKc p (rmL 1) s m args meth c LY D cy ad cX12_isDoing RX12 2 1 (some .boolean)) (x1 : Int32) (M : Mem) : BL p l e (rmL 1) s m args below meth c LY D cy ad 2 (QI LY D cy ad) 0 [(0, .ref (ad 0)), (1, .int x1)] [] M (fX12_isDoing n0 x1 M) := by
  unfold fX12_isDoing
  refine b_iload_n hO dX12_isDoing_0 1 rfl rfl ?_
  refine b_if_lt hO dX12_isDoing_1 (tgt := 21) (by decide) ?_ ?_
  · refine b_iconst hO dX12_isDoing_21 ic_i_0 ?_
    exact b_zretc hO (Or.inl rfl) dX12_isDoing_22
  · refine b_iload_n hO dX12_isDoing_4 1 rfl rfl ?_
    refine b_aload_n hO dX12_isDoing_5 0 rfl rfl ?_
    refine b_get hO flX12_78 kLY_0 (v := .ref (ad 10)) rfl dX12_isDoing_6 ?_
    refine b_aload_n hO dX12_isDoing_9 0 rfl rfl ?_
    refine b_get hO flX12_51 kLY_0 (v := .int (gI _ 13)) rfl dX12_isDoing_10 ?_
    refine b_iald hO kLY_10 (n := 2) rfl dX12_isDoing_13 ?_
    refine b_icmp_ge hO dX12_isDoing_14 (tgt := 21) (by decide) ?_ ?_
    · refine b_iconst hO dX12_isDoing_21 ic_i_0 ?_
      exact b_zretc hO (Or.inl rfl) dX12_isDoing_22
    · refine b_iconst hO dX12_isDoing_17 ic_i_1 ?_
      refine b_goto hO dX12_isDoing_18 (tgt := 22) (by decide) ?_
      exact b_zretc hO (Or.inr rfl) dX12_isDoing_22
theorem ctX12_isDoing (n0 : Nat) (hI : Inj LY ad) (x1 : Int32) (M : Mem) : CT l LY D cy ad yX12_isDoing cX12_isDoing 2 (some .boolean) 1 (QI LY D cy ad) [.ref (ad 0), .int x1] M (fX12_isDoing n0 x1 M) :=
  CT.mk LYok hI (by decide) (Nat.le_of_ble_eq_true rfl) (fun hO => tfX12_isDoing n0 hO x1 M)
/-! X12_has -/
def fX12_has_148 (n0 : Nat) (k119 : Int32 → Int32 → Mem → Option (Int32 × Mem)) (x3 : Int32) (u0 : Int32) (u1 : Int32) (M : Mem) : Option (Int32 × Mem) :=
  bnd (u0 + u1) fun x2_149 =>
  k119 x2_149 (x3 + (1 : Int32)) M
def bX12_has_119 (n0 : Nat) (k119 : Int32 → Int32 → Mem → Option (Int32 × Mem)) (x2 : Int32) (x3 : Int32) (M : Mem) : Option (Int32 × Mem) :=
  if oob (gI M 13) 2 then none else
  if (gA M 5 (Int32.toNatClampNeg (gI M 13))) ≤ x3 then
    some (x2, M)
  else
    if oob x3 110 then none else
    if (gA M 29 (Int32.toNatClampNeg x3)) = (-1 : Int32) then
      fX12_has_148 n0 k119 x3 x2 (1 : Int32) M
    else
      fX12_has_148 n0 k119 x3 x2 (0 : Int32) M
def fX12_has_119 (n0 : Nat) : Int32 → Int32 → Mem → Option (Int32 × Mem) := loopN (bX12_has_119 n0) (fun _ _ _ => none) n0
def fX12_has (n0 : Nat) (x1 : Int32) (M : Mem) : Option (Int32 × Mem) :=
  if x1 = 0 then
    if oob (gI M 13) 2 then none else
    some ((gA M 2 (Int32.toNatClampNeg (gI M 13))), M)
  else
  if x1 = 1 then
    if oob (gI M 13) 2 then none else
    some ((gA M 5 (Int32.toNatClampNeg (gI M 13))), M)
  else
  if x1 = 2 then
    if oob (gI M 13) 2 then none else
    some ((gA M 7 (Int32.toNatClampNeg (gI M 13))), M)
  else
  if x1 = 3 then
    if oob (gI M 13) 2 then none else
    some ((gA M 10 (Int32.toNatClampNeg (gI M 13))), M)
  else
  if x1 = 4 then
    if oob (0 : Int32) 22 then none else
    some ((gA M 28 (Int32.toNatClampNeg (0 : Int32))), M)
  else
  if x1 = 5 then
    if oob (0 : Int32) 22 then none else
    (fX12_bits n0 (gA M 31 (Int32.toNatClampNeg (0 : Int32))) M).bind fun z113 =>
    some (z113.1, z113.2)
  else
  if x1 = 6 then
    fX12_has_119 n0 (0 : Int32) (0 : Int32) M
  else
  if x1 = 7 then
    if oob (0 : Int32) 22 then none else
    some ((gA M 32 (Int32.toNatClampNeg (0 : Int32))), M)
  else
  if x1 = 8 then
    some ((gI M 61), M)
  else
  if x1 = 9 then
    some ((gI M 54), M)
  else
  if x1 = 10 then
    some (((gL M 55)).toInt32, M)
  else
  some ((-1 : Int32), M)
theorem tfX12_has_148 (n0 : Nat) (hO : OKc p (rmL 2) s m args meth c LY D cy ad cX12_has RX12 4 2 (some .int)) (k119 : Int32 → Int32 → Mem → Option (Int32 × Mem)) (hk119 : ∀ (x2 : Int32) (x3 : Int32) (M : Mem), BL p l e (rmL 2) s m args below meth c LY D cy ad 4 (QI LY D cy ad) 119 [(0, .ref (ad 0)), (2, .int x2), (3, .int x3)] [] M (k119 x2 x3 M)) (x3 : Int32) (u0 : Int32) (u1 : Int32) (M : Mem) : BL p l e (rmL 2) s m args below meth c LY D cy ad 4 (QI LY D cy ad) 148 [(0, .ref (ad 0)), (3, .int x3)] [.int u1, .int u0] M (fX12_has_148 n0 k119 x3 u0 u1 M) := by
  unfold fX12_has_148
  refine b_iadd hO dX12_has_148 ?_
  refine b_topI (fun x2_149 => ?_)
  refine b_istore_n hO dX12_has_149 rfl (by decide) (lv' := [(2, .int _), (0, .ref _), (3, .int _)]) rfl ?_
  refine b_iinc hO dX12_has_150 2 rfl ic_i_1 (by decide) (lv' := [(3, .int _), (2, .int _), (0, .ref _)]) rfl ?_
  refine b_goto hO dX12_has_153 (tgt := 119) (by decide) ?_
  refine b_sub [2, 1, 0] rfl ?_
  exact hk119 _ _ _
theorem tbX12_has_119 (n0 : Nat) (hO : OKc p (rmL 2) s m args meth c LY D cy ad cX12_has RX12 4 2 (some .int)) (k119 : Int32 → Int32 → Mem → Option (Int32 × Mem)) (hk119 : ∀ (x2 : Int32) (x3 : Int32) (M : Mem), BL p l e (rmL 2) s m args below meth c LY D cy ad 4 (QI LY D cy ad) 119 [(0, .ref (ad 0)), (2, .int x2), (3, .int x3)] [] M (k119 x2 x3 M)) (x2 : Int32) (x3 : Int32) (M : Mem) : BL p l e (rmL 2) s m args below meth c LY D cy ad 4 (QI LY D cy ad) 119 [(0, .ref (ad 0)), (2, .int x2), (3, .int x3)] [] M (bX12_has_119 n0 k119 x2 x3 M) := by
  unfold bX12_has_119
  refine b_iload_n hO dX12_has_119 2 rfl rfl ?_
  refine b_aload_n hO dX12_has_120 0 rfl rfl ?_
  refine b_get hO flX12_63 kLY_0 (v := .ref (ad 5)) rfl dX12_has_121 ?_
  refine b_aload_n hO dX12_has_124 0 rfl rfl ?_
  refine b_get hO flX12_51 kLY_0 (v := .int (gI _ 13)) rfl dX12_has_125 ?_
  refine b_iald hO kLY_5 (n := 2) rfl dX12_has_128 ?_
  refine b_icmp_ge hO dX12_has_129 (tgt := 156) (by decide) ?_ ?_
  · refine b_iload_n hO dX12_has_156 1 rfl rfl ?_
    exact b_iret hO dX12_has_157
  · refine b_iload_n hO dX12_has_132 1 rfl rfl ?_
    refine b_aload_n hO dX12_has_133 0 rfl rfl ?_
    refine b_get hO flX12_159 kLY_0 (v := .ref (ad 29)) rfl dX12_has_134 ?_
    refine b_iload_n hO dX12_has_137 2 rfl rfl ?_
    refine b_iald hO kLY_29 (n := 110) rfl dX12_has_138 ?_
    refine b_iconst hO dX12_has_139 ic_i_m1 ?_
    refine b_icmp_ne hO dX12_has_140 (tgt := 147) (by decide) ?_ ?_
    · refine b_iconst hO dX12_has_147 ic_i_0 ?_
      refine b_sub [0, 2] rfl ?_
      exact tfX12_has_148 n0 hO k119 hk119 _ _ _ _
    · refine b_iconst hO dX12_has_143 ic_i_1 ?_
      refine b_goto hO dX12_has_144 (tgt := 148) (by decide) ?_
      refine b_sub [0, 2] rfl ?_
      exact tfX12_has_148 n0 hO k119 hk119 _ _ _ _
theorem lX12_has_119 (n0 : Nat) (hO : OKc p (rmL 2) s m args meth c LY D cy ad cX12_has RX12 4 2 (some .int)) : ∀ (w : Nat) (x2 : Int32) (x3 : Int32) (M : Mem), BL p l e (rmL 2) s m args below meth c LY D cy ad 4 (QI LY D cy ad) 119 [(0, .ref (ad 0)), (2, .int x2), (3, .int x3)] [] M (loopN (bX12_has_119 n0) (fun _ _ _ => none) w x2 x3 M) := by
  intro w
  induction w with
  | zero =>
    intros
    exact b_none
  | succ w ih =>
    intro x2 x3 M
    exact tbX12_has_119 n0 hO _ ih x2 x3 M
theorem tfX12_has_119 (n0 : Nat) (hO : OKc p (rmL 2) s m args meth c LY D cy ad cX12_has RX12 4 2 (some .int)) (x2 : Int32) (x3 : Int32) (M : Mem) : BL p l e (rmL 2) s m args below meth c LY D cy ad 4 (QI LY D cy ad) 119 [(0, .ref (ad 0)), (2, .int x2), (3, .int x3)] [] M (fX12_has_119 n0 x2 x3 M) := lX12_has_119 n0 hO n0 x2 x3 M
theorem tfX12_has (n0 : Nat) (hO : OKc p (rmL 2) s m args meth c LY D cy ad cX12_has RX12 4 2 (some .int)) (x1 : Int32) (M : Mem) : BL p l e (rmL 2) s m args below meth c LY D cy ad 4 (QI LY D cy ad) 0 [(0, .ref (ad 0)), (1, .int x1)] [] M (fX12_has n0 x1 M) := by
  unfold fX12_has
  refine b_iconst hO dX12_has_0 ic_i_0 ?_
  refine b_istore_n hO dX12_has_1 rfl (by decide) (lv' := [(2, .int _), (0, .ref _), (1, .int _)]) rfl ?_
  refine b_iload_n hO dX12_has_2 2 rfl rfl ?_
  refine b_tabIn hO dX12_has_3 (v := 0) (z := 0) (tgt := 60) (by decide) (by decide) (by decide) rfl (by decide) ?_ (fun hn0 => ?_)
  · refine b_aload_n hO dX12_has_60 1 rfl rfl ?_
    refine b_get hO flX12_54 kLY_0 (v := .ref (ad 2)) rfl dX12_has_61 ?_
    refine b_aload_n hO dX12_has_64 1 rfl rfl ?_
    refine b_get hO flX12_51 kLY_0 (v := .int (gI _ 13)) rfl dX12_has_65 ?_
    refine b_iald hO kLY_2 (n := 2) rfl dX12_has_68 ?_
    exact b_iret hO dX12_has_69
  refine b_tabIn hO dX12_has_3 (v := 1) (z := 1) (tgt := 70) (by decide) (by decide) (by decide) rfl (by decide) ?_ (fun hn1 => ?_)
  · refine b_aload_n hO dX12_has_70 1 rfl rfl ?_
    refine b_get hO flX12_63 kLY_0 (v := .ref (ad 5)) rfl dX12_has_71 ?_
    refine b_aload_n hO dX12_has_74 1 rfl rfl ?_
    refine b_get hO flX12_51 kLY_0 (v := .int (gI _ 13)) rfl dX12_has_75 ?_
    refine b_iald hO kLY_5 (n := 2) rfl dX12_has_78 ?_
    exact b_iret hO dX12_has_79
  refine b_tabIn hO dX12_has_3 (v := 2) (z := 2) (tgt := 80) (by decide) (by decide) (by decide) rfl (by decide) ?_ (fun hn2 => ?_)
  · refine b_aload_n hO dX12_has_80 1 rfl rfl ?_
    refine b_get hO flX12_69 kLY_0 (v := .ref (ad 7)) rfl dX12_has_81 ?_
    refine b_aload_n hO dX12_has_84 1 rfl rfl ?_
    refine b_get hO flX12_51 kLY_0 (v := .int (gI _ 13)) rfl dX12_has_85 ?_
    refine b_iald hO kLY_7 (n := 2) rfl dX12_has_88 ?_
    exact b_iret hO dX12_has_89
  refine b_tabIn hO dX12_has_3 (v := 3) (z := 3) (tgt := 90) (by decide) (by decide) (by decide) rfl (by decide) ?_ (fun hn3 => ?_)
  · refine b_aload_n hO dX12_has_90 1 rfl rfl ?_
    refine b_get hO flX12_78 kLY_0 (v := .ref (ad 10)) rfl dX12_has_91 ?_
    refine b_aload_n hO dX12_has_94 1 rfl rfl ?_
    refine b_get hO flX12_51 kLY_0 (v := .int (gI _ 13)) rfl dX12_has_95 ?_
    refine b_iald hO kLY_10 (n := 2) rfl dX12_has_98 ?_
    exact b_iret hO dX12_has_99
  refine b_tabIn hO dX12_has_3 (v := 4) (z := 4) (tgt := 100) (by decide) (by decide) (by decide) rfl (by decide) ?_ (fun hn4 => ?_)
  · refine b_aload_n hO dX12_has_100 1 rfl rfl ?_
    refine b_get hO flX12_156 kLY_0 (v := .ref (ad 28)) rfl dX12_has_101 ?_
    refine b_iconst hO dX12_has_104 ic_i_0 ?_
    refine b_iald hO kLY_28 (n := 22) rfl dX12_has_105 ?_
    exact b_iret hO dX12_has_106
  refine b_tabIn hO dX12_has_3 (v := 5) (z := 5) (tgt := 107) (by decide) (by decide) (by decide) rfl (by decide) ?_ (fun hn5 => ?_)
  · refine b_aload_n hO dX12_has_107 1 rfl rfl ?_
    refine b_get hO flX12_165 kLY_0 (v := .ref (ad 31)) rfl dX12_has_108 ?_
    refine b_iconst hO dX12_has_111 ic_i_0 ?_
    refine b_iald hO kLY_31 (n := 22) rfl dX12_has_112 ?_
    refine b_callSI hO mdX12_bits w1714 w1713 (As := [.int _]) (st := []) (ctX12_bits n0 hO.2.2.2.2.2.2.1 _ _) (Nat.le_of_ble_eq_true rfl) rfl rfl (Nat.le_of_ble_eq_true rfl) dX12_has_113 (fun z113 => ?_)
    exact b_iret hO dX12_has_116
  refine b_tabIn hO dX12_has_3 (v := 6) (z := 6) (tgt := 117) (by decide) (by decide) (by decide) rfl (by decide) ?_ (fun hn6 => ?_)
  · refine b_iconst hO dX12_has_117 ic_i_0 ?_
    refine b_istore_n hO dX12_has_118 rfl (by decide) (lv' := [(3, .int _), (2, .int _), (0, .ref _), (1, .int _)]) rfl ?_
    refine b_sub [2, 1, 0] rfl ?_
    exact tfX12_has_119 n0 hO _ _ _
  refine b_tabIn hO dX12_has_3 (v := 7) (z := 7) (tgt := 158) (by decide) (by decide) (by decide) rfl (by decide) ?_ (fun hn7 => ?_)
  · refine b_aload_n hO dX12_has_158 1 rfl rfl ?_
    refine b_get hO flX12_168 kLY_0 (v := .ref (ad 32)) rfl dX12_has_159 ?_
    refine b_iconst hO dX12_has_162 ic_i_0 ?_
    refine b_iald hO kLY_32 (n := 22) rfl dX12_has_163 ?_
    exact b_iret hO dX12_has_164
  refine b_tabIn hO dX12_has_3 (v := 8) (z := 8) (tgt := 165) (by decide) (by decide) (by decide) rfl (by decide) ?_ (fun hn8 => ?_)
  · refine b_aload_n hO dX12_has_165 1 rfl rfl ?_
    refine b_get hO flX12_198 kLY_0 (v := .int (gI _ 61)) rfl dX12_has_166 ?_
    exact b_iret hO dX12_has_169
  refine b_tabIn hO dX12_has_3 (v := 9) (z := 9) (tgt := 170) (by decide) (by decide) (by decide) rfl (by decide) ?_ (fun hn9 => ?_)
  · refine b_aload_n hO dX12_has_170 1 rfl rfl ?_
    refine b_get hO flX12_177 kLY_0 (v := .int (gI _ 54)) rfl dX12_has_171 ?_
    exact b_iret hO dX12_has_174
  refine b_tabIn hO dX12_has_3 (v := 10) (z := 10) (tgt := 175) (by decide) (by decide) (by decide) rfl (by decide) ?_ (fun hn10 => ?_)
  · refine b_aload_n hO dX12_has_175 1 rfl rfl ?_
    refine b_get hO flX12_180 kLY_0 (v := .long (gL _ 55)) rfl dX12_has_176 ?_
    refine b_l2i hO dX12_has_179 ?_
    exact b_iret hO dX12_has_180
  refine b_tabOut hO dX12_has_3 (tgt := 181) (by omega) (by decide) ?_
  refine b_iconst hO dX12_has_181 ic_i_m1 ?_
  exact b_iret hO dX12_has_182
theorem ctX12_has (n0 : Nat) (hI : Inj LY ad) (x1 : Int32) (M : Mem) : CT l LY D cy ad yX12_has cX12_has 4 (some .int) 2 (QI LY D cy ad) [.ref (ad 0), .int x1] M (fX12_has n0 x1 M) :=
  CT.mk LYok hI (by decide) (Nat.le_of_ble_eq_true rfl) (fun hO => tfX12_has n0 hO x1 M)
/-! X12_letter -/
def bX12_letter_58 (n0 : Nat) (k58 : Int32 → Int64 → Int32 → Int64 → Mem → Option (Int32 × Mem)) (x3 : Int32) (y4 : Int64) (x6 : Int32) (y7 : Int64) (M : Mem) : Option (Int32 × Mem) :=
  if (lg_cmp y7 (0 : Int64)) ≤ 0 then
    if x3 < x6 then
      some ((((((y4 >>> ((((8 : Int32) * ((x6 - (1 : Int32)) - x3))).toInt64 &&& 63)) &&& (255 : Int64))).toInt32 - (97 : Int32)) + (1 : Int32)), M)
    else
      some ((0 : Int32), M)
  else
    bnd (y7 >>> (((8 : Int32)).toInt64 &&& 63)) fun y7_73 =>
    k58 x3 y4 (x6 + (1 : Int32)) y7_73 M
def fX12_letter_58 (n0 : Nat) : Int32 → Int64 → Int32 → Int64 → Mem → Option (Int32 × Mem) := loopN (bX12_letter_58 n0) (fun _ _ _ _ _ => none) n0
def fX12_letter (n0 : Nat) (x1 : Int32) (x2 : Int32) (x3 : Int32) (M : Mem) : Option (Int32 × Mem) :=
  (fX12_is n0 x1 (0 : Int32) (2 : Int32) M).bind fun z3 =>
  if z3.1 = 0 then
    some ((-1 : Int32), z3.2)
  else
    (fX12_manyOf n0 (gI z3.2 13) x1 z3.2).bind fun z17 =>
    (fX12_is n0 x2 (0 : Int32) (z17.1 - (1 : Int32)) z17.2).bind fun z22 =>
    if z22.1 = 0 then
      some ((-1 : Int32), z22.2)
    else
      (fX12_is n0 x3 (0 : Int32) (5 : Int32) z22.2).bind fun z31 =>
      if z31.1 = 0 then
        some ((-1 : Int32), z31.2)
      else
        (fX12_nameOf n0 (gI z31.2 13) x1 x2 z31.2).bind fun z46 =>
        fX12_letter_58 n0 x3 z46.1 (0 : Int32) z46.1 z46.2
theorem tbX12_letter_58 (n0 : Nat) (hO : OKc p (rmL 2) s m args meth c LY D cy ad cX12_letter RX12 9 2 (some .int)) (k58 : Int32 → Int64 → Int32 → Int64 → Mem → Option (Int32 × Mem)) (hk58 : ∀ (x3 : Int32) (y4 : Int64) (x6 : Int32) (y7 : Int64) (M : Mem), BL p l e (rmL 2) s m args below meth c LY D cy ad 9 (QI LY D cy ad) 58 [(3, .int x3), (4, .long y4), (6, .int x6), (7, .long y7)] [] M (k58 x3 y4 x6 y7 M)) (x3 : Int32) (y4 : Int64) (x6 : Int32) (y7 : Int64) (M : Mem) : BL p l e (rmL 2) s m args below meth c LY D cy ad 9 (QI LY D cy ad) 58 [(3, .int x3), (4, .long y4), (6, .int x6), (7, .long y7)] [] M (bX12_letter_58 n0 k58 x3 y4 x6 y7 M) := by
  unfold bX12_letter_58
  refine b_lload hO dX12_letter_58 3 rfl ?_
  refine b_lconst hO dX12_letter_60 (v := 0) rfl ?_
  refine b_lcmp hO dX12_letter_61 ?_
  refine b_if_le hO dX12_letter_62 (tgt := 78) (by decide) ?_ ?_
  · refine b_iload_n hO dX12_letter_78 0 rfl rfl ?_
    refine b_iload hO dX12_letter_79 2 rfl ?_
    refine b_icmp_lt hO dX12_letter_81 (tgt := 88) (by decide) ?_ ?_
    · refine b_lload hO dX12_letter_88 1 rfl ?_
      refine b_bipush hO dX12_letter_90 ic_b_8 ?_
      refine b_iload hO dX12_letter_92 2 rfl ?_
      refine b_iconst hO dX12_letter_94 ic_i_1 ?_
      refine b_isub hO dX12_letter_95 ?_
      refine b_iload_n hO dX12_letter_96 0 rfl rfl ?_
      refine b_isub hO dX12_letter_97 ?_
      refine b_imul hO dX12_letter_98 ?_
      refine b_lshr hO dX12_letter_99 ?_
      refine b_ldc2 hO w1720 dX12_letter_100 ?_
      refine b_land hO dX12_letter_103 ?_
      refine b_l2i hO dX12_letter_104 ?_
      refine b_bipush hO dX12_letter_105 ic_b_97 ?_
      refine b_isub hO dX12_letter_107 ?_
      refine b_iconst hO dX12_letter_108 ic_i_1 ?_
      refine b_iadd hO dX12_letter_109 ?_
      exact b_iret hO dX12_letter_110
    · refine b_iconst hO dX12_letter_84 ic_i_0 ?_
      refine b_goto hO dX12_letter_85 (tgt := 110) (by decide) ?_
      exact b_iret hO dX12_letter_110
  · refine b_iinc hO dX12_letter_65 2 rfl ic_i_1 (by decide) (lv' := [(6, .int _), (3, .int _), (4, .long _), (7, .long _)]) rfl ?_
    refine b_lload hO dX12_letter_68 3 rfl ?_
    refine b_bipush hO dX12_letter_70 ic_b_8 ?_
    refine b_lshr hO dX12_letter_72 ?_
    refine b_topL (fun y7_73 => ?_)
    refine b_lstore hO dX12_letter_73 (by decide) (lv' := [(7, .long _), (6, .int _), (3, .int _), (4, .long _)]) rfl ?_
    refine b_goto hO dX12_letter_75 (tgt := 58) (by decide) ?_
    refine b_sub [2, 3, 1, 0] rfl ?_
    exact hk58 _ _ _ _ _
theorem lX12_letter_58 (n0 : Nat) (hO : OKc p (rmL 2) s m args meth c LY D cy ad cX12_letter RX12 9 2 (some .int)) : ∀ (w : Nat) (x3 : Int32) (y4 : Int64) (x6 : Int32) (y7 : Int64) (M : Mem), BL p l e (rmL 2) s m args below meth c LY D cy ad 9 (QI LY D cy ad) 58 [(3, .int x3), (4, .long y4), (6, .int x6), (7, .long y7)] [] M (loopN (bX12_letter_58 n0) (fun _ _ _ _ _ => none) w x3 y4 x6 y7 M) := by
  intro w
  induction w with
  | zero =>
    intros
    exact b_none
  | succ w ih =>
    intro x3 y4 x6 y7 M
    exact tbX12_letter_58 n0 hO _ ih x3 y4 x6 y7 M
theorem tfX12_letter_58 (n0 : Nat) (hO : OKc p (rmL 2) s m args meth c LY D cy ad cX12_letter RX12 9 2 (some .int)) (x3 : Int32) (y4 : Int64) (x6 : Int32) (y7 : Int64) (M : Mem) : BL p l e (rmL 2) s m args below meth c LY D cy ad 9 (QI LY D cy ad) 58 [(3, .int x3), (4, .long y4), (6, .int x6), (7, .long y7)] [] M (fX12_letter_58 n0 x3 y4 x6 y7 M) := lX12_letter_58 n0 hO n0 x3 y4 x6 y7 M
theorem tfX12_letter (n0 : Nat) (hO : OKc p (rmL 2) s m args meth c LY D cy ad cX12_letter RX12 9 2 (some .int)) (x1 : Int32) (x2 : Int32) (x3 : Int32) (M : Mem) : BL p l e (rmL 2) s m args below meth c LY D cy ad 9 (QI LY D cy ad) 0 [(0, .ref (ad 0)), (1, .int x1), (2, .int x2), (3, .int x3)] [] M (fX12_letter n0 x1 x2 x3 M) := by
  unfold fX12_letter
  refine b_iload_n hO dX12_letter_0 1 rfl rfl ?_
  refine b_iconst hO dX12_letter_1 ic_i_0 ?_
  refine b_iconst hO dX12_letter_2 ic_i_2 ?_
  refine b_callSI hO mdX12_is w1561 w1560 (As := [.int _, .int _, .int _]) (st := []) (ctX12_is n0 hO.2.2.2.2.2.2.1 _ _ _ _) (Nat.le_of_ble_eq_true rfl) rfl rfl (Nat.le_of_ble_eq_true rfl) dX12_letter_3 (fun z3 => ?_)
  refine b_if_eq hO dX12_letter_6 (tgt := 37) (by decide) ?_ ?_
  · refine b_iconst hO dX12_letter_37 ic_i_m1 ?_
    exact b_iret hO dX12_letter_38
  · refine b_iload_n hO dX12_letter_9 2 rfl rfl ?_
    refine b_iconst hO dX12_letter_10 ic_i_0 ?_
    refine b_aload_n hO dX12_letter_11 0 rfl rfl ?_
    refine b_aload_n hO dX12_letter_12 0 rfl rfl ?_
    refine b_get hO flX12_51 kLY_0 (v := .int (gI _ 13)) rfl dX12_letter_13 ?_
    refine b_iload_n hO dX12_letter_16 1 rfl rfl ?_
    refine b_callVI hO mdX12_manyOf mvX12_manyOf w1544 (ci := 12) rfl rfl (by decide) kLY_0 (As := [.int _, .int _]) (st := [.int _, .int _]) (ctX12_manyOf n0 hO.2.2.2.2.2.2.1 _ _ _) (Nat.le_of_ble_eq_true rfl) rfl rfl (Nat.le_of_ble_eq_true rfl) dX12_letter_17 (fun z17 => ?_)
    refine b_iconst hO dX12_letter_20 ic_i_1 ?_
    refine b_isub hO dX12_letter_21 ?_
    refine b_callSI hO mdX12_is w1561 w1560 (As := [.int _, .int _, .int _]) (st := []) (ctX12_is n0 hO.2.2.2.2.2.2.1 _ _ _ _) (Nat.le_of_ble_eq_true rfl) rfl rfl (Nat.le_of_ble_eq_true rfl) dX12_letter_22 (fun z22 => ?_)
    refine b_if_eq hO dX12_letter_25 (tgt := 37) (by decide) ?_ ?_
    · refine b_iconst hO dX12_letter_37 ic_i_m1 ?_
      exact b_iret hO dX12_letter_38
    · refine b_iload_n hO dX12_letter_28 3 rfl rfl ?_
      refine b_iconst hO dX12_letter_29 ic_i_0 ?_
      refine b_iconst hO dX12_letter_30 ic_i_5 ?_
      refine b_callSI hO mdX12_is w1561 w1560 (As := [.int _, .int _, .int _]) (st := []) (ctX12_is n0 hO.2.2.2.2.2.2.1 _ _ _ _) (Nat.le_of_ble_eq_true rfl) rfl rfl (Nat.le_of_ble_eq_true rfl) dX12_letter_31 (fun z31 => ?_)
      refine b_if_ne hO dX12_letter_34 (tgt := 39) (by decide) ?_ ?_
      · refine b_aload_n hO dX12_letter_39 0 rfl rfl ?_
        refine b_aload_n hO dX12_letter_40 0 rfl rfl ?_
        refine b_get hO flX12_51 kLY_0 (v := .int (gI _ 13)) rfl dX12_letter_41 ?_
        refine b_iload_n hO dX12_letter_44 1 rfl rfl ?_
        refine b_iload_n hO dX12_letter_45 2 rfl rfl ?_
        refine b_callVL hO mdX12_nameOf mvX12_nameOf w1548 (ci := 12) rfl rfl (by decide) kLY_0 (As := [.int _, .int _, .int _]) (st := []) (ctX12_nameOf n0 hO.2.2.2.2.2.2.1 _ _ _ _) (Nat.le_of_ble_eq_true rfl) rfl rfl (Nat.le_of_ble_eq_true rfl) dX12_letter_46 (fun z46 => ?_)
        refine b_lstore hO dX12_letter_49 (by decide) (lv' := [(4, .long _), (0, .ref _), (1, .int _), (2, .int _), (3, .int _)]) rfl ?_
        refine b_iconst hO dX12_letter_51 ic_i_0 ?_
        refine b_istore hO dX12_letter_52 (by decide) (lv' := [(6, .int _), (4, .long _), (0, .ref _), (1, .int _), (2, .int _), (3, .int _)]) rfl ?_
        refine b_lload hO dX12_letter_54 1 rfl ?_
        refine b_lstore hO dX12_letter_56 (by decide) (lv' := [(7, .long _), (6, .int _), (4, .long _), (0, .ref _), (1, .int _), (2, .int _), (3, .int _)]) rfl ?_
        refine b_sub [6, 2, 1, 0] rfl ?_
        exact tfX12_letter_58 n0 hO _ _ _ _ _
      · refine b_iconst hO dX12_letter_37 ic_i_m1 ?_
        exact b_iret hO dX12_letter_38
theorem ctX12_letter (n0 : Nat) (hI : Inj LY ad) (x1 : Int32) (x2 : Int32) (x3 : Int32) (M : Mem) : CT l LY D cy ad yX12_letter cX12_letter 9 (some .int) 2 (QI LY D cy ad) [.ref (ad 0), .int x1, .int x2, .int x3] M (fX12_letter n0 x1 x2 x3 M) :=
  CT.mk LYok hI (by decide) (Nat.le_of_ble_eq_true rfl) (fun hO => tfX12_letter n0 hO x1 x2 x3 M)
/-! X12_thing -/
def fX12_thing (n0 : Nat) (x1 : Int32) (x2 : Int32) (M : Mem) : Option (Int32 × Mem) :=
  (fX12_isThing n0 x1 M).bind fun z2 =>
  if z2.1 = 0 then
    some ((-1 : Int32), z2.2)
  else
    if x2 = 0 then
      if oob (((6 : Int32) * (gI z2.2 13)) + x1) 12 then none else
      some ((gA z2.2 3 (Int32.toNatClampNeg (((6 : Int32) * (gI z2.2 13)) + x1))), z2.2)
    else
      if x2 = (1 : Int32) then
        if oob (((6 : Int32) * (gI z2.2 13)) + x1) 12 then none else
        some ((gA z2.2 4 (Int32.toNatClampNeg (((6 : Int32) * (gI z2.2 13)) + x1))), z2.2)
      else
        some ((-1 : Int32), z2.2)
theorem tfX12_thing (n0 : Nat) (hO : OKc p (rmL 2) s m args meth c LY D cy ad cX12_thing RX12 3 2 (some .int)) (x1 : Int32) (x2 : Int32) (M : Mem) : BL p l e (rmL 2) s m args below meth c LY D cy ad 3 (QI LY D cy ad) 0 [(0, .ref (ad 0)), (1, .int x1), (2, .int x2)] [] M (fX12_thing n0 x1 x2 M) := by
  unfold fX12_thing
  refine b_aload_n hO dX12_thing_0 0 rfl rfl ?_
  refine b_iload_n hO dX12_thing_1 1 rfl rfl ?_
  refine b_callVI hO mdX12_isThing mvX12_isThing w1725 (ci := 12) rfl rfl (by decide) kLY_0 (As := [.int _]) (st := []) (ctX12_isThing n0 hO.2.2.2.2.2.2.1 _ _) (Nat.le_of_ble_eq_true rfl) rfl rfl (Nat.le_of_ble_eq_true rfl) dX12_thing_2 (fun z2 => ?_)
  refine b_if_ne hO dX12_thing_5 (tgt := 12) (by decide) ?_ ?_
  · refine b_iload_n hO dX12_thing_12 2 rfl rfl ?_
    refine b_if_ne hO dX12_thing_13 (tgt := 33) (by decide) ?_ ?_
    · refine b_iload_n hO dX12_thing_33 2 rfl rfl ?_
      refine b_iconst hO dX12_thing_34 ic_i_1 ?_
      refine b_icmp_ne hO dX12_thing_35 (tgt := 55) (by decide) ?_ ?_
      · refine b_iconst hO dX12_thing_55 ic_i_m1 ?_
        exact b_iret hO dX12_thing_56
      · refine b_aload_n hO dX12_thing_38 0 rfl rfl ?_
        refine b_get hO flX12_60 kLY_0 (v := .ref (ad 4)) rfl dX12_thing_39 ?_
        refine b_bipush hO dX12_thing_42 ic_b_6 ?_
        refine b_aload_n hO dX12_thing_44 0 rfl rfl ?_
        refine b_get hO flX12_51 kLY_0 (v := .int (gI _ 13)) rfl dX12_thing_45 ?_
        refine b_imul hO dX12_thing_48 ?_
        refine b_iload_n hO dX12_thing_49 1 rfl rfl ?_
        refine b_iadd hO dX12_thing_50 ?_
        refine b_iald hO kLY_4 (n := 12) rfl dX12_thing_51 ?_
        refine b_goto hO dX12_thing_52 (tgt := 56) (by decide) ?_
        exact b_iret hO dX12_thing_56
    · refine b_aload_n hO dX12_thing_16 0 rfl rfl ?_
      refine b_get hO flX12_57 kLY_0 (v := .ref (ad 3)) rfl dX12_thing_17 ?_
      refine b_bipush hO dX12_thing_20 ic_b_6 ?_
      refine b_aload_n hO dX12_thing_22 0 rfl rfl ?_
      refine b_get hO flX12_51 kLY_0 (v := .int (gI _ 13)) rfl dX12_thing_23 ?_
      refine b_imul hO dX12_thing_26 ?_
      refine b_iload_n hO dX12_thing_27 1 rfl rfl ?_
      refine b_iadd hO dX12_thing_28 ?_
      refine b_iald hO kLY_3 (n := 12) rfl dX12_thing_29 ?_
      refine b_goto hO dX12_thing_30 (tgt := 56) (by decide) ?_
      exact b_iret hO dX12_thing_56
  · refine b_iconst hO dX12_thing_8 ic_i_m1 ?_
    refine b_goto hO dX12_thing_9 (tgt := 56) (by decide) ?_
    exact b_iret hO dX12_thing_56
theorem ctX12_thing (n0 : Nat) (hI : Inj LY ad) (x1 : Int32) (x2 : Int32) (M : Mem) : CT l LY D cy ad yX12_thing cX12_thing 3 (some .int) 2 (QI LY D cy ad) [.ref (ad 0), .int x1, .int x2] M (fX12_thing n0 x1 x2 M) :=
  CT.mk LYok hI (by decide) (Nat.le_of_ble_eq_true rfl) (fun hO => tfX12_thing n0 hO x1 x2 M)
/-! X12_corner -/
def fX12_corner (n0 : Nat) (x1 : Int32) (x2 : Int32) (M : Mem) : Option (Int32 × Mem) :=
  (fX12_isCorner n0 x1 M).bind fun z2 =>
  if z2.1 = 0 then
    some ((-1 : Int32), z2.2)
  else
    if x2 = 0 then
      if oob x1 110 then none else
      some ((gA z2.2 29 (Int32.toNatClampNeg x1)), z2.2)
    else
      if x2 = (1 : Int32) then
        if oob x1 110 then none else
        some ((gA z2.2 30 (Int32.toNatClampNeg x1)), z2.2)
      else
        if x2 = (2 : Int32) then
          (fX12_hour n0 (0 : Int32) x1 z2.2).bind fun z47 =>
          some (z47.1, z47.2)
        else
          some ((-1 : Int32), z2.2)
theorem tfX12_corner (n0 : Nat) (hO : OKc p (rmL 5) s m args meth c LY D cy ad cX12_corner RX12 3 5 (some .int)) (x1 : Int32) (x2 : Int32) (M : Mem) : BL p l e (rmL 5) s m args below meth c LY D cy ad 3 (QI LY D cy ad) 0 [(0, .ref (ad 0)), (1, .int x1), (2, .int x2)] [] M (fX12_corner n0 x1 x2 M) := by
  unfold fX12_corner
  refine b_aload_n hO dX12_corner_0 0 rfl rfl ?_
  refine b_iload_n hO dX12_corner_1 1 rfl rfl ?_
  refine b_callVI hO mdX12_isCorner mvX12_isCorner w1733 (ci := 12) rfl rfl (by decide) kLY_0 (As := [.int _]) (st := []) (ctX12_isCorner n0 hO.2.2.2.2.2.2.1 _ _) (Nat.le_of_ble_eq_true rfl) rfl rfl (Nat.le_of_ble_eq_true rfl) dX12_corner_2 (fun z2 => ?_)
  refine b_if_ne hO dX12_corner_5 (tgt := 12) (by decide) ?_ ?_
  · refine b_iload_n hO dX12_corner_12 2 rfl rfl ?_
    refine b_if_ne hO dX12_corner_13 (tgt := 25) (by decide) ?_ ?_
    · refine b_iload_n hO dX12_corner_25 2 rfl rfl ?_
      refine b_iconst hO dX12_corner_26 ic_i_1 ?_
      refine b_icmp_ne hO dX12_corner_27 (tgt := 39) (by decide) ?_ ?_
      · refine b_iload_n hO dX12_corner_39 2 rfl rfl ?_
        refine b_iconst hO dX12_corner_40 ic_i_2 ?_
        refine b_icmp_ne hO dX12_corner_41 (tgt := 53) (by decide) ?_ ?_
        · refine b_iconst hO dX12_corner_53 ic_i_m1 ?_
          exact b_iret hO dX12_corner_54
        · refine b_aload_n hO dX12_corner_44 0 rfl rfl ?_
          refine b_iconst hO dX12_corner_45 ic_i_0 ?_
          refine b_iload_n hO dX12_corner_46 1 rfl rfl ?_
          refine b_callVI hO mdX12_hour mvX12_hour w1657 (ci := 12) rfl rfl (by decide) kLY_0 (As := [.int _, .int _]) (st := []) (ctX12_hour n0 hO.2.2.2.2.2.2.1 _ _ _) (Nat.le_of_ble_eq_true rfl) rfl rfl (Nat.le_of_ble_eq_true rfl) dX12_corner_47 (fun z47 => ?_)
          refine b_goto hO dX12_corner_50 (tgt := 54) (by decide) ?_
          exact b_iret hO dX12_corner_54
      · refine b_aload_n hO dX12_corner_30 0 rfl rfl ?_
        refine b_get hO flX12_162 kLY_0 (v := .ref (ad 30)) rfl dX12_corner_31 ?_
        refine b_iload_n hO dX12_corner_34 1 rfl rfl ?_
        refine b_iald hO kLY_30 (n := 110) rfl dX12_corner_35 ?_
        refine b_goto hO dX12_corner_36 (tgt := 54) (by decide) ?_
        exact b_iret hO dX12_corner_54
    · refine b_aload_n hO dX12_corner_16 0 rfl rfl ?_
      refine b_get hO flX12_159 kLY_0 (v := .ref (ad 29)) rfl dX12_corner_17 ?_
      refine b_iload_n hO dX12_corner_20 1 rfl rfl ?_
      refine b_iald hO kLY_29 (n := 110) rfl dX12_corner_21 ?_
      refine b_goto hO dX12_corner_22 (tgt := 54) (by decide) ?_
      exact b_iret hO dX12_corner_54
  · refine b_iconst hO dX12_corner_8 ic_i_m1 ?_
    refine b_goto hO dX12_corner_9 (tgt := 54) (by decide) ?_
    exact b_iret hO dX12_corner_54
theorem ctX12_corner (n0 : Nat) (hI : Inj LY ad) (x1 : Int32) (x2 : Int32) (M : Mem) : CT l LY D cy ad yX12_corner cX12_corner 3 (some .int) 5 (QI LY D cy ad) [.ref (ad 0), .int x1, .int x2] M (fX12_corner n0 x1 x2 M) :=
  CT.mk LYok hI (by decide) (Nat.le_of_ble_eq_true rfl) (fun hO => tfX12_corner n0 hO x1 x2 M)
/-! X12_doing -/
def fX12_doing (n0 : Nat) (x1 : Int32) (x2 : Int32) (M : Mem) : Option (Int32 × Mem) :=
  (fX12_isDoing n0 x1 M).bind fun z2 =>
  if z2.1 = 0 then
    some ((-1 : Int32), z2.2)
  else
    if x2 = 0 then
      if oob (((6 : Int32) * (gI z2.2 13)) + x1) 12 then none else
      some ((gA z2.2 11 (Int32.toNatClampNeg (((6 : Int32) * (gI z2.2 13)) + x1))), z2.2)
    else
      if x2 = (1 : Int32) then
        if oob (((6 : Int32) * (gI z2.2 13)) + x1) 12 then none else
        some ((gA z2.2 12 (Int32.toNatClampNeg (((6 : Int32) * (gI z2.2 13)) + x1))), z2.2)
      else
        if x2 = (2 : Int32) then
          if oob (0 : Int32) 22 then none else
          (fX12_has2 n0 (gA z2.2 31 (Int32.toNatClampNeg (0 : Int32))) x1 z2.2).bind fun z67 =>
          if z67.1 = 0 then
            some ((0 : Int32), z67.2)
          else
            some ((1 : Int32), z67.2)
        else
          some ((-1 : Int32), z2.2)
theorem tfX12_doing (n0 : Nat) (hO : OKc p (rmL 2) s m args meth c LY D cy ad cX12_doing RX12 3 2 (some .int)) (x1 : Int32) (x2 : Int32) (M : Mem) : BL p l e (rmL 2) s m args below meth c LY D cy ad 3 (QI LY D cy ad) 0 [(0, .ref (ad 0)), (1, .int x1), (2, .int x2)] [] M (fX12_doing n0 x1 x2 M) := by
  unfold fX12_doing
  refine b_aload_n hO dX12_doing_0 0 rfl rfl ?_
  refine b_iload_n hO dX12_doing_1 1 rfl rfl ?_
  refine b_callVI hO mdX12_isDoing mvX12_isDoing w1741 (ci := 12) rfl rfl (by decide) kLY_0 (As := [.int _]) (st := []) (ctX12_isDoing n0 hO.2.2.2.2.2.2.1 _ _) (Nat.le_of_ble_eq_true rfl) rfl rfl (Nat.le_of_ble_eq_true rfl) dX12_doing_2 (fun z2 => ?_)
  refine b_if_ne hO dX12_doing_5 (tgt := 12) (by decide) ?_ ?_
  · refine b_iload_n hO dX12_doing_12 2 rfl rfl ?_
    refine b_if_ne hO dX12_doing_13 (tgt := 33) (by decide) ?_ ?_
    · refine b_iload_n hO dX12_doing_33 2 rfl rfl ?_
      refine b_iconst hO dX12_doing_34 ic_i_1 ?_
      refine b_icmp_ne hO dX12_doing_35 (tgt := 55) (by decide) ?_ ?_
      · refine b_iload_n hO dX12_doing_55 2 rfl rfl ?_
        refine b_iconst hO dX12_doing_56 ic_i_2 ?_
        refine b_icmp_ne hO dX12_doing_57 (tgt := 81) (by decide) ?_ ?_
        · refine b_iconst hO dX12_doing_81 ic_i_m1 ?_
          exact b_iret hO dX12_doing_82
        · refine b_aload_n hO dX12_doing_60 0 rfl rfl ?_
          refine b_get hO flX12_165 kLY_0 (v := .ref (ad 31)) rfl dX12_doing_61 ?_
          refine b_iconst hO dX12_doing_64 ic_i_0 ?_
          refine b_iald hO kLY_31 (n := 22) rfl dX12_doing_65 ?_
          refine b_iload_n hO dX12_doing_66 1 rfl rfl ?_
          refine b_callSI hO mdX12_has2 w1576 w1575 (As := [.int _, .int _]) (st := []) (ctX12_has2 n0 hO.2.2.2.2.2.2.1 _ _ _) (Nat.le_of_ble_eq_true rfl) rfl rfl (Nat.le_of_ble_eq_true rfl) dX12_doing_67 (fun z67 => ?_)
          refine b_if_eq hO dX12_doing_70 (tgt := 77) (by decide) ?_ ?_
          · refine b_iconst hO dX12_doing_77 ic_i_0 ?_
            refine b_goto hO dX12_doing_78 (tgt := 82) (by decide) ?_
            exact b_iret hO dX12_doing_82
          · refine b_iconst hO dX12_doing_73 ic_i_1 ?_
            refine b_goto hO dX12_doing_74 (tgt := 82) (by decide) ?_
            exact b_iret hO dX12_doing_82
      · refine b_aload_n hO dX12_doing_38 0 rfl rfl ?_
        refine b_get hO flX12_84 kLY_0 (v := .ref (ad 12)) rfl dX12_doing_39 ?_
        refine b_bipush hO dX12_doing_42 ic_b_6 ?_
        refine b_aload_n hO dX12_doing_44 0 rfl rfl ?_
        refine b_get hO flX12_51 kLY_0 (v := .int (gI _ 13)) rfl dX12_doing_45 ?_
        refine b_imul hO dX12_doing_48 ?_
        refine b_iload_n hO dX12_doing_49 1 rfl rfl ?_
        refine b_iadd hO dX12_doing_50 ?_
        refine b_iald hO kLY_12 (n := 12) rfl dX12_doing_51 ?_
        refine b_goto hO dX12_doing_52 (tgt := 82) (by decide) ?_
        exact b_iret hO dX12_doing_82
    · refine b_aload_n hO dX12_doing_16 0 rfl rfl ?_
      refine b_get hO flX12_81 kLY_0 (v := .ref (ad 11)) rfl dX12_doing_17 ?_
      refine b_bipush hO dX12_doing_20 ic_b_6 ?_
      refine b_aload_n hO dX12_doing_22 0 rfl rfl ?_
      refine b_get hO flX12_51 kLY_0 (v := .int (gI _ 13)) rfl dX12_doing_23 ?_
      refine b_imul hO dX12_doing_26 ?_
      refine b_iload_n hO dX12_doing_27 1 rfl rfl ?_
      refine b_iadd hO dX12_doing_28 ?_
      refine b_iald hO kLY_11 (n := 12) rfl dX12_doing_29 ?_
      refine b_goto hO dX12_doing_30 (tgt := 82) (by decide) ?_
      exact b_iret hO dX12_doing_82
  · refine b_iconst hO dX12_doing_8 ic_i_m1 ?_
    refine b_goto hO dX12_doing_9 (tgt := 82) (by decide) ?_
    exact b_iret hO dX12_doing_82
theorem ctX12_doing (n0 : Nat) (hI : Inj LY ad) (x1 : Int32) (x2 : Int32) (M : Mem) : CT l LY D cy ad yX12_doing cX12_doing 3 (some .int) 2 (QI LY D cy ad) [.ref (ad 0), .int x1, .int x2] M (fX12_doing n0 x1 x2 M) :=
  CT.mk LYok hI (by decide) (Nat.le_of_ble_eq_true rfl) (fun hO => tfX12_doing n0 hO x1 x2 M)
/-! X12_isAhead -/
def fX12_isAhead (n0 : Nat) (x1 : Int32) (x2 : Int32) (x3 : Int32) (M : Mem) : Option (Int32 × Mem) :=
  (fX12_is n0 x1 x2 x3 M).bind fun z3 =>
  if z3.1 = 0 then
    some ((0 : Int32), z3.2)
  else
    if oob (0 : Int32) 22 then none else
    if ((9999 : Int32) - x1) < (gA z3.2 28 (Int32.toNatClampNeg (0 : Int32))) then
      some ((0 : Int32), z3.2)
    else
      some ((1 : Int32), z3.2)
theorem tfX12_isAhead (n0 : Nat) (hO : OKc p (rmL 2) s m args meth c LY D cy ad cX12_isAhead RX12 4 2 (some .boolean)) (x1 : Int32) (x2 : Int32) (x3 : Int32) (M : Mem) : BL p l e (rmL 2) s m args below meth c LY D cy ad 4 (QI LY D cy ad) 0 [(0, .ref (ad 0)), (1, .int x1), (2, .int x2), (3, .int x3)] [] M (fX12_isAhead n0 x1 x2 x3 M) := by
  unfold fX12_isAhead
  refine b_iload_n hO dX12_isAhead_0 1 rfl rfl ?_
  refine b_iload_n hO dX12_isAhead_1 2 rfl rfl ?_
  refine b_iload_n hO dX12_isAhead_2 3 rfl rfl ?_
  refine b_callSI hO mdX12_is w1561 w1560 (As := [.int _, .int _, .int _]) (st := []) (ctX12_is n0 hO.2.2.2.2.2.2.1 _ _ _ _) (Nat.le_of_ble_eq_true rfl) rfl rfl (Nat.le_of_ble_eq_true rfl) dX12_isAhead_3 (fun z3 => ?_)
  refine b_if_eq hO dX12_isAhead_6 (tgt := 27) (by decide) ?_ ?_
  · refine b_iconst hO dX12_isAhead_27 ic_i_0 ?_
    exact b_zretc hO (Or.inl rfl) dX12_isAhead_28
  · refine b_aload_n hO dX12_isAhead_9 0 rfl rfl ?_
    refine b_get hO flX12_156 kLY_0 (v := .ref (ad 28)) rfl dX12_isAhead_10 ?_
    refine b_iconst hO dX12_isAhead_13 ic_i_0 ?_
    refine b_iald hO kLY_28 (n := 22) rfl dX12_isAhead_14 ?_
    refine b_sipush hO dX12_isAhead_15 ic_s_9999 ?_
    refine b_iload_n hO dX12_isAhead_18 1 rfl rfl ?_
    refine b_isub hO dX12_isAhead_19 ?_
    refine b_icmp_gt hO dX12_isAhead_20 (tgt := 27) (by decide) ?_ ?_
    · refine b_iconst hO dX12_isAhead_27 ic_i_0 ?_
      exact b_zretc hO (Or.inl rfl) dX12_isAhead_28
    · refine b_iconst hO dX12_isAhead_23 ic_i_1 ?_
      refine b_goto hO dX12_isAhead_24 (tgt := 28) (by decide) ?_
      exact b_zretc hO (Or.inr rfl) dX12_isAhead_28
theorem ctX12_isAhead (n0 : Nat) (hI : Inj LY ad) (x1 : Int32) (x2 : Int32) (x3 : Int32) (M : Mem) : CT l LY D cy ad yX12_isAhead cX12_isAhead 4 (some .boolean) 2 (QI LY D cy ad) [.ref (ad 0), .int x1, .int x2, .int x3] M (fX12_isAhead n0 x1 x2 x3 M) :=
  CT.mk LYok hI (by decide) (Nat.le_of_ble_eq_true rfl) (fun hO => tfX12_isAhead n0 hO x1 x2 x3 M)
/-! X12_later -/
def bX12_later_29 (n0 : Nat) (k29 : Int32 → Int32 → Int32 → Mem → Option (Int32 × Mem)) (x1 : Int32) (x2 : Int32) (x3 : Int32) (M : Mem) : Option (Int32 × Mem) :=
  if x2 ≤ x3 then
    (fX12_hour n0 (1 : Int32) x1 M).bind fun z49 =>
    some (z49.1, z49.2)
  else
    (fX12_passes n0 (1 : Int32) M).bind fun z36 =>
    k29 x1 x2 (x3 + (1 : Int32)) z36.2
def fX12_later_29 (n0 : Nat) : Int32 → Int32 → Int32 → Mem → Option (Int32 × Mem) := loopN (bX12_later_29 n0) (fun _ _ _ _ => none) n0
def fX12_later (n0 : Nat) (x1 : Int32) (x2 : Int32) (M : Mem) : Option (Int32 × Mem) :=
  (fX12_isCorner n0 x1 M).bind fun z2 =>
  if z2.1 = 0 then
    some ((-1 : Int32), z2.2)
  else
    (fX12_isAhead n0 x2 (0 : Int32) (60 : Int32) z2.2).bind fun z13 =>
    if z13.1 = 0 then
      some ((-1 : Int32), z13.2)
    else
      (fX12_copies n0 (1 : Int32) (0 : Int32) z13.2).bind fun z24 =>
      fX12_later_29 n0 x1 x2 (0 : Int32) z24
theorem tbX12_later_29 (n0 : Nat) (hO : OKc p (rmL 7) s m args meth c LY D cy ad cX12_later RX12 4 7 (some .int)) (k29 : Int32 → Int32 → Int32 → Mem → Option (Int32 × Mem)) (hk29 : ∀ (x1 : Int32) (x2 : Int32) (x3 : Int32) (M : Mem), BL p l e (rmL 7) s m args below meth c LY D cy ad 4 (QI LY D cy ad) 29 [(0, .ref (ad 0)), (1, .int x1), (2, .int x2), (3, .int x3)] [] M (k29 x1 x2 x3 M)) (x1 : Int32) (x2 : Int32) (x3 : Int32) (M : Mem) : BL p l e (rmL 7) s m args below meth c LY D cy ad 4 (QI LY D cy ad) 29 [(0, .ref (ad 0)), (1, .int x1), (2, .int x2), (3, .int x3)] [] M (bX12_later_29 n0 k29 x1 x2 x3 M) := by
  unfold bX12_later_29
  refine b_iload_n hO dX12_later_29 3 rfl rfl ?_
  refine b_iload_n hO dX12_later_30 2 rfl rfl ?_
  refine b_icmp_ge hO dX12_later_31 (tgt := 46) (by decide) ?_ ?_
  · refine b_aload_n hO dX12_later_46 0 rfl rfl ?_
    refine b_iconst hO dX12_later_47 ic_i_1 ?_
    refine b_iload_n hO dX12_later_48 1 rfl rfl ?_
    refine b_callVI hO mdX12_hour mvX12_hour w1657 (ci := 12) rfl rfl (by decide) kLY_0 (As := [.int _, .int _]) (st := []) (ctX12_hour n0 hO.2.2.2.2.2.2.1 _ _ _) (Nat.le_of_ble_eq_true rfl) rfl rfl (Nat.le_of_ble_eq_true rfl) dX12_later_49 (fun z49 => ?_)
    exact b_iret hO dX12_later_52
  · refine b_aload_n hO dX12_later_34 0 rfl rfl ?_
    refine b_iconst hO dX12_later_35 ic_i_1 ?_
    refine b_callVI hO mdX12_passes mvX12_passes w1753 (ci := 12) rfl rfl (by decide) kLY_0 (As := [.int _]) (st := []) (ctX12_passes n0 hO.2.2.2.2.2.2.1 _ _) (Nat.le_of_ble_eq_true rfl) rfl rfl (Nat.le_of_ble_eq_true rfl) dX12_later_36 (fun z36 => ?_)
    refine b_pop hO dX12_later_39 rfl ?_
    refine b_iinc hO dX12_later_40 3 rfl ic_i_1 (by decide) (lv' := [(3, .int _), (0, .ref _), (1, .int _), (2, .int _)]) rfl ?_
    refine b_goto hO dX12_later_43 (tgt := 29) (by decide) ?_
    refine b_sub [1, 2, 3, 0] rfl ?_
    exact hk29 _ _ _ _
theorem lX12_later_29 (n0 : Nat) (hO : OKc p (rmL 7) s m args meth c LY D cy ad cX12_later RX12 4 7 (some .int)) : ∀ (w : Nat) (x1 : Int32) (x2 : Int32) (x3 : Int32) (M : Mem), BL p l e (rmL 7) s m args below meth c LY D cy ad 4 (QI LY D cy ad) 29 [(0, .ref (ad 0)), (1, .int x1), (2, .int x2), (3, .int x3)] [] M (loopN (bX12_later_29 n0) (fun _ _ _ _ => none) w x1 x2 x3 M) := by
  intro w
  induction w with
  | zero =>
    intros
    exact b_none
  | succ w ih =>
    intro x1 x2 x3 M
    exact tbX12_later_29 n0 hO _ ih x1 x2 x3 M
theorem tfX12_later_29 (n0 : Nat) (hO : OKc p (rmL 7) s m args meth c LY D cy ad cX12_later RX12 4 7 (some .int)) (x1 : Int32) (x2 : Int32) (x3 : Int32) (M : Mem) : BL p l e (rmL 7) s m args below meth c LY D cy ad 4 (QI LY D cy ad) 29 [(0, .ref (ad 0)), (1, .int x1), (2, .int x2), (3, .int x3)] [] M (fX12_later_29 n0 x1 x2 x3 M) := lX12_later_29 n0 hO n0 x1 x2 x3 M
theorem tfX12_later (n0 : Nat) (hO : OKc p (rmL 7) s m args meth c LY D cy ad cX12_later RX12 4 7 (some .int)) (x1 : Int32) (x2 : Int32) (M : Mem) : BL p l e (rmL 7) s m args below meth c LY D cy ad 4 (QI LY D cy ad) 0 [(0, .ref (ad 0)), (1, .int x1), (2, .int x2)] [] M (fX12_later n0 x1 x2 M) := by
  unfold fX12_later
  refine b_aload_n hO dX12_later_0 0 rfl rfl ?_
  refine b_iload_n hO dX12_later_1 1 rfl rfl ?_
  refine b_callVI hO mdX12_isCorner mvX12_isCorner w1733 (ci := 12) rfl rfl (by decide) kLY_0 (As := [.int _]) (st := []) (ctX12_isCorner n0 hO.2.2.2.2.2.2.1 _ _) (Nat.le_of_ble_eq_true rfl) rfl rfl (Nat.le_of_ble_eq_true rfl) dX12_later_2 (fun z2 => ?_)
  refine b_if_eq hO dX12_later_5 (tgt := 19) (by decide) ?_ ?_
  · refine b_iconst hO dX12_later_19 ic_i_m1 ?_
    exact b_iret hO dX12_later_20
  · refine b_aload_n hO dX12_later_8 0 rfl rfl ?_
    refine b_iload_n hO dX12_later_9 2 rfl rfl ?_
    refine b_iconst hO dX12_later_10 ic_i_0 ?_
    refine b_bipush hO dX12_later_11 ic_b_60 ?_
    refine b_callVI hO mdX12_isAhead mvX12_isAhead w1749 (ci := 12) rfl rfl (by decide) kLY_0 (As := [.int _, .int _, .int _]) (st := []) (ctX12_isAhead n0 hO.2.2.2.2.2.2.1 _ _ _ _) (Nat.le_of_ble_eq_true rfl) rfl rfl (Nat.le_of_ble_eq_true rfl) dX12_later_13 (fun z13 => ?_)
    refine b_if_ne hO dX12_later_16 (tgt := 21) (by decide) ?_ ?_
    · refine b_aload_n hO dX12_later_21 0 rfl rfl ?_
      refine b_iconst hO dX12_later_22 ic_i_1 ?_
      refine b_iconst hO dX12_later_23 ic_i_0 ?_
      refine b_callVV hO mdX12_copies mvX12_copies w1705 (ci := 12) rfl rfl (by decide) kLY_0 (As := [.int _, .int _]) (st := []) (ctX12_copies n0 hO.2.2.2.2.2.2.1 _ _ _) (Nat.le_of_ble_eq_true rfl) rfl rfl (Nat.le_of_ble_eq_true rfl) dX12_later_24 (fun z24 => ?_)
      refine b_iconst hO dX12_later_27 ic_i_0 ?_
      refine b_istore_n hO dX12_later_28 rfl (by decide) (lv' := [(3, .int _), (0, .ref _), (1, .int _), (2, .int _)]) rfl ?_
      refine b_sub [1, 2, 3, 0] rfl ?_
      exact tfX12_later_29 n0 hO _ _ _ _
    · refine b_iconst hO dX12_later_19 ic_i_m1 ?_
      exact b_iret hO dX12_later_20
theorem ctX12_later (n0 : Nat) (hI : Inj LY ad) (x1 : Int32) (x2 : Int32) (M : Mem) : CT l LY D cy ad yX12_later cX12_later 4 (some .int) 7 (QI LY D cy ad) [.ref (ad 0), .int x1, .int x2] M (fX12_later n0 x1 x2 M) :=
  CT.mk LYok hI (by decide) (Nat.le_of_ble_eq_true rfl) (fun hO => tfX12_later n0 hO x1 x2 M)
/-! X12_when -/
def bX12_when_18 (n0 : Nat) (k18 : Int32 → Int32 → Mem → Option (Int32 × Mem)) (x1 : Int32) (x2 : Int32) (M : Mem) : Option (Int32 × Mem) :=
  (fX12_isAhead n0 x2 (0 : Int32) (60 : Int32) M).bind fun z23 =>
  if z23.1 = 0 then
    some ((-1 : Int32), z23.2)
  else
    if oob (1 : Int32) 22 then none else
    (fX12_has2 n0 (gA z23.2 31 (Int32.toNatClampNeg (1 : Int32))) x1 z23.2).bind fun z36 =>
    if z36.1 = 0 then
      (fX12_passes n0 (1 : Int32) z36.2).bind fun z46 =>
      k18 x1 (x2 + (1 : Int32)) z46.2
    else
      some (x2, z36.2)
def fX12_when_18 (n0 : Nat) : Int32 → Int32 → Mem → Option (Int32 × Mem) := loopN (bX12_when_18 n0) (fun _ _ _ => none) n0
def fX12_when (n0 : Nat) (x1 : Int32) (M : Mem) : Option (Int32 × Mem) :=
  (fX12_isDoing n0 x1 M).bind fun z2 =>
  if z2.1 = 0 then
    some ((-1 : Int32), z2.2)
  else
    (fX12_copies n0 (1 : Int32) (0 : Int32) z2.2).bind fun z13 =>
    fX12_when_18 n0 x1 (0 : Int32) z13
theorem tbX12_when_18 (n0 : Nat) (hO : OKc p (rmL 7) s m args meth c LY D cy ad cX12_when RX12 3 7 (some .int)) (k18 : Int32 → Int32 → Mem → Option (Int32 × Mem)) (hk18 : ∀ (x1 : Int32) (x2 : Int32) (M : Mem), BL p l e (rmL 7) s m args below meth c LY D cy ad 3 (QI LY D cy ad) 18 [(0, .ref (ad 0)), (1, .int x1), (2, .int x2)] [] M (k18 x1 x2 M)) (x1 : Int32) (x2 : Int32) (M : Mem) : BL p l e (rmL 7) s m args below meth c LY D cy ad 3 (QI LY D cy ad) 18 [(0, .ref (ad 0)), (1, .int x1), (2, .int x2)] [] M (bX12_when_18 n0 k18 x1 x2 M) := by
  unfold bX12_when_18
  refine b_aload_n hO dX12_when_18 0 rfl rfl ?_
  refine b_iload_n hO dX12_when_19 2 rfl rfl ?_
  refine b_iconst hO dX12_when_20 ic_i_0 ?_
  refine b_bipush hO dX12_when_21 ic_b_60 ?_
  refine b_callVI hO mdX12_isAhead mvX12_isAhead w1749 (ci := 12) rfl rfl (by decide) kLY_0 (As := [.int _, .int _, .int _]) (st := []) (ctX12_isAhead n0 hO.2.2.2.2.2.2.1 _ _ _ _) (Nat.le_of_ble_eq_true rfl) rfl rfl (Nat.le_of_ble_eq_true rfl) dX12_when_23 (fun z23 => ?_)
  refine b_if_eq hO dX12_when_26 (tgt := 56) (by decide) ?_ ?_
  · refine b_iconst hO dX12_when_56 ic_i_m1 ?_
    exact b_iret hO dX12_when_57
  · refine b_aload_n hO dX12_when_29 0 rfl rfl ?_
    refine b_get hO flX12_165 kLY_0 (v := .ref (ad 31)) rfl dX12_when_30 ?_
    refine b_iconst hO dX12_when_33 ic_i_1 ?_
    refine b_iald hO kLY_31 (n := 22) rfl dX12_when_34 ?_
    refine b_iload_n hO dX12_when_35 1 rfl rfl ?_
    refine b_callSI hO mdX12_has2 w1576 w1575 (As := [.int _, .int _]) (st := []) (ctX12_has2 n0 hO.2.2.2.2.2.2.1 _ _ _) (Nat.le_of_ble_eq_true rfl) rfl rfl (Nat.le_of_ble_eq_true rfl) dX12_when_36 (fun z36 => ?_)
    refine b_if_eq hO dX12_when_39 (tgt := 44) (by decide) ?_ ?_
    · refine b_aload_n hO dX12_when_44 0 rfl rfl ?_
      refine b_iconst hO dX12_when_45 ic_i_1 ?_
      refine b_callVI hO mdX12_passes mvX12_passes w1753 (ci := 12) rfl rfl (by decide) kLY_0 (As := [.int _]) (st := []) (ctX12_passes n0 hO.2.2.2.2.2.2.1 _ _) (Nat.le_of_ble_eq_true rfl) rfl rfl (Nat.le_of_ble_eq_true rfl) dX12_when_46 (fun z46 => ?_)
      refine b_pop hO dX12_when_49 rfl ?_
      refine b_iinc hO dX12_when_50 2 rfl ic_i_1 (by decide) (lv' := [(2, .int _), (0, .ref _), (1, .int _)]) rfl ?_
      refine b_goto hO dX12_when_53 (tgt := 18) (by decide) ?_
      refine b_sub [1, 2, 0] rfl ?_
      exact hk18 _ _ _
    · refine b_iload_n hO dX12_when_42 2 rfl rfl ?_
      exact b_iret hO dX12_when_43
theorem lX12_when_18 (n0 : Nat) (hO : OKc p (rmL 7) s m args meth c LY D cy ad cX12_when RX12 3 7 (some .int)) : ∀ (w : Nat) (x1 : Int32) (x2 : Int32) (M : Mem), BL p l e (rmL 7) s m args below meth c LY D cy ad 3 (QI LY D cy ad) 18 [(0, .ref (ad 0)), (1, .int x1), (2, .int x2)] [] M (loopN (bX12_when_18 n0) (fun _ _ _ => none) w x1 x2 M) := by
  intro w
  induction w with
  | zero =>
    intros
    exact b_none
  | succ w ih =>
    intro x1 x2 M
    exact tbX12_when_18 n0 hO _ ih x1 x2 M
theorem tfX12_when_18 (n0 : Nat) (hO : OKc p (rmL 7) s m args meth c LY D cy ad cX12_when RX12 3 7 (some .int)) (x1 : Int32) (x2 : Int32) (M : Mem) : BL p l e (rmL 7) s m args below meth c LY D cy ad 3 (QI LY D cy ad) 18 [(0, .ref (ad 0)), (1, .int x1), (2, .int x2)] [] M (fX12_when_18 n0 x1 x2 M) := lX12_when_18 n0 hO n0 x1 x2 M
theorem tfX12_when (n0 : Nat) (hO : OKc p (rmL 7) s m args meth c LY D cy ad cX12_when RX12 3 7 (some .int)) (x1 : Int32) (M : Mem) : BL p l e (rmL 7) s m args below meth c LY D cy ad 3 (QI LY D cy ad) 0 [(0, .ref (ad 0)), (1, .int x1)] [] M (fX12_when n0 x1 M) := by
  unfold fX12_when
  refine b_aload_n hO dX12_when_0 0 rfl rfl ?_
  refine b_iload_n hO dX12_when_1 1 rfl rfl ?_
  refine b_callVI hO mdX12_isDoing mvX12_isDoing w1741 (ci := 12) rfl rfl (by decide) kLY_0 (As := [.int _]) (st := []) (ctX12_isDoing n0 hO.2.2.2.2.2.2.1 _ _) (Nat.le_of_ble_eq_true rfl) rfl rfl (Nat.le_of_ble_eq_true rfl) dX12_when_2 (fun z2 => ?_)
  refine b_if_ne hO dX12_when_5 (tgt := 10) (by decide) ?_ ?_
  · refine b_aload_n hO dX12_when_10 0 rfl rfl ?_
    refine b_iconst hO dX12_when_11 ic_i_1 ?_
    refine b_iconst hO dX12_when_12 ic_i_0 ?_
    refine b_callVV hO mdX12_copies mvX12_copies w1705 (ci := 12) rfl rfl (by decide) kLY_0 (As := [.int _, .int _]) (st := []) (ctX12_copies n0 hO.2.2.2.2.2.2.1 _ _ _) (Nat.le_of_ble_eq_true rfl) rfl rfl (Nat.le_of_ble_eq_true rfl) dX12_when_13 (fun z13 => ?_)
    refine b_iconst hO dX12_when_16 ic_i_0 ?_
    refine b_istore_n hO dX12_when_17 rfl (by decide) (lv' := [(2, .int _), (0, .ref _), (1, .int _)]) rfl ?_
    refine b_sub [1, 2, 0] rfl ?_
    exact tfX12_when_18 n0 hO _ _ _
  · refine b_iconst hO dX12_when_8 ic_i_m1 ?_
    exact b_iret hO dX12_when_9
theorem ctX12_when (n0 : Nat) (hI : Inj LY ad) (x1 : Int32) (M : Mem) : CT l LY D cy ad yX12_when cX12_when 3 (some .int) 7 (QI LY D cy ad) [.ref (ad 0), .int x1] M (fX12_when n0 x1 M) :=
  CT.mk LYok hI (by decide) (Nat.le_of_ble_eq_true rfl) (fun hO => tfX12_when n0 hO x1 M)
end
end
