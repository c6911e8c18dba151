section
variable {p : Program} {l : Launch} {e : Env} {s : State} {m : MethodId} {args : Array Value} {below : List Frame} {meth : Method} {c : Code} {D : va_G} {cy : Nat → ClassId} {ad : Nat → Nat} {dd : Nat}

/-! J9_floorDiv_7cf53 -/
def fJ9_floorDiv_7cf53 (n0 : Nat) (x0 : Int32) (x1 : Int32) (M : Mem) : Option (Int32 × Mem) :=
  if x1 = 0 then none else
  bnd (x0 / x1) fun x2_3 =>
  if 0 ≤ (x0 ^^^ x1) then
    some (x2_3, M)
  else
    if (x2_3 * x1) = x0 then
      some (x2_3, M)
    else
      some ((x2_3 - (1 : Int32)), M)
theorem tfJ9_floorDiv_7cf53 (n0 : Nat) (hO : OKc p (rmL 1) s m args meth c LX D cy ad cJ9_floorDiv_7cf53 RJ9 3 1 (some .int)) (x0 : Int32) (x1 : Int32) (M : Mem) : BL p l e (rmL 1) s m args below meth c LX D cy ad 3 (QI LX D cy ad) 0 [(0, .int x0), (1, .int x1)] [] M (fJ9_floorDiv_7cf53 n0 x0 x1 M) := by
  unfold fJ9_floorDiv_7cf53
  refine b_iload_n hO dJ9_floorDiv_7cf53_0 0 rfl rfl ?_
  refine b_iload_n hO dJ9_floorDiv_7cf53_1 1 rfl rfl ?_
  refine b_idiv hO dJ9_floorDiv_7cf53_2 ?_
  refine b_topI (fun x2_3 => ?_)
  refine b_istore_n hO dJ9_floorDiv_7cf53_3 rfl (by decide) (lv' := [(2, .int _), (0, .int _), (1, .int _)]) rfl ?_
  refine b_iload_n hO dJ9_floorDiv_7cf53_4 1 rfl rfl ?_
  refine b_iload_n hO dJ9_floorDiv_7cf53_5 2 rfl rfl ?_
  refine b_ixor hO dJ9_floorDiv_7cf53_6 ?_
  refine b_if_ge hO dJ9_floorDiv_7cf53_7 (tgt := 21) (by decide) ?_ ?_
  · refine b_iload_n hO dJ9_floorDiv_7cf53_21 0 rfl rfl ?_
    exact b_iret hO dJ9_floorDiv_7cf53_22
  · refine b_iload_n hO dJ9_floorDiv_7cf53_10 0 rfl rfl ?_
    refine b_iload_n hO dJ9_floorDiv_7cf53_11 2 rfl rfl ?_
    refine b_imul hO dJ9_floorDiv_7cf53_12 ?_
    refine b_iload_n hO dJ9_floorDiv_7cf53_13 1 rfl rfl ?_
    refine b_icmp_eq hO dJ9_floorDiv_7cf53_14 (tgt := 21) (by decide) ?_ ?_
    · refine b_iload_n hO dJ9_floorDiv_7cf53_21 0 rfl rfl ?_
      exact b_iret hO dJ9_floorDiv_7cf53_22
    · refine b_iload_n hO dJ9_floorDiv_7cf53_17 0 rfl rfl ?_
      refine b_iconst hO dJ9_floorDiv_7cf53_18 ic_i_1 ?_
      refine b_isub hO dJ9_floorDiv_7cf53_19 ?_
      exact b_iret hO dJ9_floorDiv_7cf53_20
theorem ctJ9_floorDiv_7cf53 (n0 : Nat) (hI : Inj LX ad) (x0 : Int32) (x1 : Int32) (M : Mem) : CT l LX D cy ad yJ9_floorDiv_7cf53 cJ9_floorDiv_7cf53 3 (some .int) 1 (QI LX D cy ad) [.int x0, .int x1] M (fJ9_floorDiv_7cf53 n0 x0 x1 M) :=
  CT.mkF LXok hI (by decide +kernel) (Nat.le_of_ble_eq_true rfl) (fun hO => tfJ9_floorDiv_7cf53 n0 hO x0 x1 M)
/-! J9_floorMod_7cf53 -/
def fJ9_floorMod_7cf53 (n0 : Nat) (x0 : Int32) (x1 : Int32) (M : Mem) : Option (Int32 × Mem) :=
  if x1 = 0 then none else
  bnd (rem32 x0 x1) fun x2_3 =>
  if 0 ≤ (x0 ^^^ x1) then
    some (x2_3, M)
  else
    if x2_3 = 0 then
      some (x2_3, M)
    else
      some ((x2_3 + x1), M)
theorem tfJ9_floorMod_7cf53 (n0 : Nat) (hO : OKc p (rmL 1) s m args meth c LX D cy ad cJ9_floorMod_7cf53 RJ9 3 1 (some .int)) (x0 : Int32) (x1 : Int32) (M : Mem) : BL p l e (rmL 1) s m args below meth c LX D cy ad 3 (QI LX D cy ad) 0 [(0, .int x0), (1, .int x1)] [] M (fJ9_floorMod_7cf53 n0 x0 x1 M) := by
  unfold fJ9_floorMod_7cf53
  refine b_iload_n hO dJ9_floorMod_7cf53_0 0 rfl rfl ?_
  refine b_iload_n hO dJ9_floorMod_7cf53_1 1 rfl rfl ?_
  refine b_irem hO dJ9_floorMod_7cf53_2 ?_
  refine b_topI (fun x2_3 => ?_)
  refine b_istore_n hO dJ9_floorMod_7cf53_3 rfl (by decide) (lv' := [(2, .int _), (0, .int _), (1, .int _)]) rfl ?_
  refine b_iload_n hO dJ9_floorMod_7cf53_4 1 rfl rfl ?_
  refine b_iload_n hO dJ9_floorMod_7cf53_5 2 rfl rfl ?_
  refine b_ixor hO dJ9_floorMod_7cf53_6 ?_
  refine b_if_ge hO dJ9_floorMod_7cf53_7 (tgt := 18) (by decide) ?_ ?_
  · refine b_iload_n hO dJ9_floorMod_7cf53_18 0 rfl rfl ?_
    exact b_iret hO dJ9_floorMod_7cf53_19
  · refine b_iload_n hO dJ9_floorMod_7cf53_10 0 rfl rfl ?_
    refine b_if_eq hO dJ9_floorMod_7cf53_11 (tgt := 18) (by decide) ?_ ?_
    · refine b_iload_n hO dJ9_floorMod_7cf53_18 0 rfl rfl ?_
      exact b_iret hO dJ9_floorMod_7cf53_19
    · refine b_iload_n hO dJ9_floorMod_7cf53_14 0 rfl rfl ?_
      refine b_iload_n hO dJ9_floorMod_7cf53_15 2 rfl rfl ?_
      refine b_iadd hO dJ9_floorMod_7cf53_16 ?_
      exact b_iret hO dJ9_floorMod_7cf53_17
theorem ctJ9_floorMod_7cf53 (n0 : Nat) (hI : Inj LX ad) (x0 : Int32) (x1 : Int32) (M : Mem) : CT l LX D cy ad yJ9_floorMod_7cf53 cJ9_floorMod_7cf53 3 (some .int) 1 (QI LX D cy ad) [.int x0, .int x1] M (fJ9_floorMod_7cf53 n0 x0 x1 M) :=
  CT.mkF LXok hI (by decide +kernel) (Nat.le_of_ble_eq_true rfl) (fun hO => tfJ9_floorMod_7cf53 n0 hO x0 x1 M)
end
