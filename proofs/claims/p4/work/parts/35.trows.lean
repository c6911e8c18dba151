theorem brw0 : (okW 296 (Cond.instanceMethod ⟨"java/lang/String", "length", "()I"⟩) && (okW 297 (Cond.selects "java/lang/String" ⟨"java/lang/String", "length", "()I"⟩ ⟨"java/lang/String", "length", "()I"⟩) && (okW 306 (Cond.instanceMethod ⟨"java/lang/String", "charAt", "(I)C"⟩) && (okW 307 (Cond.selects "java/lang/String" ⟨"java/lang/String", "charAt", "(I)C"⟩ ⟨"java/lang/String", "charAt", "(I)C"⟩) && (true))))) = true := by decide +kernel
theorem w296 : Cond.instanceMethod ⟨"java/lang/String", "length", "()I"⟩ ∈ lw_g := okW_g (an1 brw0)
theorem w297 : Cond.selects "java/lang/String" ⟨"java/lang/String", "length", "()I"⟩ ⟨"java/lang/String", "length", "()I"⟩ ∈ lw_g := okW_g (an1 (an2 brw0))
theorem w306 : Cond.instanceMethod ⟨"java/lang/String", "charAt", "(I)C"⟩ ∈ lw_g := okW_g (an1 (an2 (an2 brw0)))
theorem w307 : Cond.selects "java/lang/String" ⟨"java/lang/String", "charAt", "(I)C"⟩ ⟨"java/lang/String", "charAt", "(I)C"⟩ ∈ lw_g := okW_g (an1 (an2 (an2 (an2 brw0))))
theorem brw1 : (wdC 298 ⟨"java/lang/String", "length", "()I"⟩ cJ0_length_8abf5 1 (some .int) && (wdC 308 ⟨"java/lang/String", "charAt", "(I)C"⟩ cJ0_charAt_5068e 2 (some .char) && (true))) = true := by decide +kernel
theorem w298 : Cond.code ⟨"java/lang/String", "length", "()I"⟩ cJ0_length_8abf5 1 (some .int) ∈ lw_g := wdC_g (an1 brw1)
theorem w308 : Cond.code ⟨"java/lang/String", "charAt", "(I)C"⟩ cJ0_charAt_5068e 2 (some .char) ∈ lw_g := wdC_g (an1 (an2 brw1))
theorem mdJ0_charAt_5068e : MD yJ0_charAt_5068e cJ0_charAt_5068e 2 (some .char) 1 := ⟨w308, w126, by decide +kernel, by decide⟩
theorem mdJ0_length_8abf5 : MD yJ0_length_8abf5 cJ0_length_8abf5 1 (some .int) 0 := ⟨w298, w126, by decide +kernel, by decide⟩
def L0 : Lay := (fun _ => 99, fun _ => [], fun _ => 0, fun _ => 0, fun _ => 99, 0)
theorem L0ok : LOK L0 := fun _ => Nat.zero_le _
section
variable {p : Program} {l : Launch} {e : Env} {s : State} {m : MethodId} {args : Array Value} {below : List Frame} {meth : Method} {c : Code} {D : va_G} {cy : Nat → ClassId} {ad : Nat → Nat} {dd : Nat}
theorem tbX8_fillUp_4z (n0 : Nat) (hO : OKc p (rmL 1) s m args meth c L0 D cy ad cX8_fillUp RX8 4 1 (some .int)) (k4 : Int32 → Int32 → Mem → Option (Int32 × Mem)) (hk4 : ∀ (x2 : Int32) (x3 : Int32) (M : Mem), BL p l e (rmL 1) s m args below meth c L0 D cy ad 4 (QI L0 D cy ad) 4 [(2, .int x2), (3, .int x3)] [] M (k4 x2 x3 M)) (x2 : Int32) (x3 : Int32) (M : Mem) : BL p l e (rmL 1) s m args below meth c L0 D cy ad 4 (QI L0 D cy ad) 4 [(2, .int x2), (3, .int x3)] [] M (bX8_fillUp_4 n0 k4 x2 x3 M) := by
  unfold bX8_fillUp_4
  refine b_iload_n hO dX8_fillUp_4 1 rfl rfl ?_
  refine b_bipush hO dX8_fillUp_5 ic_b_6 ?_
  refine b_icmp_ge hO dX8_fillUp_7 (tgt := 21) (by decide) ?_ ?_
  · refine b_iload_n hO dX8_fillUp_21 0 rfl rfl ?_
    exact b_iret hO dX8_fillUp_22
  · refine b_iload_n hO dX8_fillUp_10 0 rfl rfl ?_
    refine b_bipush hO dX8_fillUp_11 ic_b_27 ?_
    refine b_imul hO dX8_fillUp_13 ?_
    refine b_topI (fun x2_14 => ?_)
    refine b_istore_n hO dX8_fillUp_14 rfl (by decide) (lv' := [(2, .int _), (3, .int _)]) rfl ?_
    refine b_iinc hO dX8_fillUp_15 1 rfl ic_i_1 (by decide) (lv' := [(3, .int _), (2, .int _)]) rfl ?_
    refine b_goto hO dX8_fillUp_18 (tgt := 4) (by decide) ?_
    refine b_sub [1, 0] rfl ?_
    exact hk4 _ _ _
theorem lX8_fillUp_4z (n0 : Nat) (hO : OKc p (rmL 1) s m args meth c L0 D cy ad cX8_fillUp RX8 4 1 (some .int)) : ∀ (w : Nat) (x2 : Int32) (x3 : Int32) (M : Mem), BL p l e (rmL 1) s m args below meth c L0 D cy ad 4 (QI L0 D cy ad) 4 [(2, .int x2), (3, .int x3)] [] M (loopN (bX8_fillUp_4 n0) (fun _ _ _ => none) w x2 x3 M) := by
  intro w
  induction w with
  | zero =>
    intros
    exact b_none
  | succ w ih =>
    intro x2 x3 M
    exact tbX8_fillUp_4z n0 hO _ ih x2 x3 M
theorem tfX8_fillUp_4z (n0 : Nat) (hO : OKc p (rmL 1) s m args meth c L0 D cy ad cX8_fillUp RX8 4 1 (some .int)) (x2 : Int32) (x3 : Int32) (M : Mem) : BL p l e (rmL 1) s m args below meth c L0 D cy ad 4 (QI L0 D cy ad) 4 [(2, .int x2), (3, .int x3)] [] M (fX8_fillUp_4 n0 x2 x3 M) := lX8_fillUp_4z n0 hO n0 x2 x3 M
theorem tfX8_fillUpz (n0 : Nat) (hO : OKc p (rmL 1) s m args meth c L0 D cy ad cX8_fillUp RX8 4 1 (some .int)) (x0 : Int32) (x1 : Int32) (M : Mem) : BL p l e (rmL 1) s m args below meth c L0 D cy ad 4 (QI L0 D cy ad) 0 [(0, .int x0), (1, .int x1)] [] M (fX8_fillUp n0 x0 x1 M) := by
  unfold fX8_fillUp
  refine b_iload_n hO dX8_fillUp_0 0 rfl rfl ?_
  refine b_istore_n hO dX8_fillUp_1 rfl (by decide) (lv' := [(2, .int _), (0, .int _), (1, .int _)]) rfl ?_
  refine b_iload_n hO dX8_fillUp_2 2 rfl rfl ?_
  refine b_istore_n hO dX8_fillUp_3 rfl (by decide) (lv' := [(3, .int _), (2, .int _), (0, .int _), (1, .int _)]) rfl ?_
  refine b_sub [1, 0] rfl ?_
  exact tfX8_fillUp_4z n0 hO _ _ _
theorem ctX8_fillUpz (n0 : Nat) (hI : Inj L0 ad) (x0 : Int32) (x1 : Int32) (M : Mem) : CT l L0 D cy ad yX8_fillUp cX8_fillUp 4 (some .int) 1 (QI L0 D cy ad) [.int x0, .int x1] M (fX8_fillUp n0 x0 x1 M) :=
  CT.mk L0ok hI (by decide) (Nat.le_of_ble_eq_true rfl) (fun hO => tfX8_fillUpz n0 hO x0 x1 M)
end
def M00 : Mem := (fun _ => 0, fun _ _ => 0, fun _ => 0, fun _ => 0, fun _ _ => 0)
section TROWS
variable {p : Program} {l : Launch} {e : Env} {R : Room} {s : State} {m : MethodId} {args : Array Value} {below : List Frame} {meth : Method} {c : Code} {D : va_G} {cy : Nat → ClassId} {A : Nat → Prop} {nL : Nat} {Q : State → Prop} {cc : ByteArray} {own : String}
variable {B0 ka va : Nat} {pc : Nat} {lv : List (Nat × Value)} {st : List Value} {ws : va_W} {cells slots : Nat}
theorem k_ldcS (hO : OKd p R s m args meth c D cy B0 ka va A cc own nL) (hown : own = "PalmHours$Tokens") (hdg : decode cc pc = .ok (.ldc 41, 2)) (K : BC p l e R s m args below meth c D A nL Q (pc + 2) lv (.ref ka :: st) ws cells slots) : BC p l e R s m args below meth c D A nL Q pc lv st ws cells slots := fun H locs ls hP hD hS hl => va_ldcS (own := own) (tx := owT) hO.1 hO.2.1 hO.2.2.2.1 (by rw [hown]; exact hO.2.2.2.2.2.2.2.2.2.2.1.2.2.1) hdg (K H locs ls hP hD hS hl)
/-- the String's cells, as they are now -/
theorem k_E (hO : OKd p R s m args meth c D cy B0 ka va A cc own nL) {H : Heap} {locs : List Loc} (hS : va_S A s.heap H locs) : va_S (fun q => B0 ≤ q) s.heap H locs := ⟨hS.1, fun q h1 h2 => hS.2.1 q h1 (fun z => h2 (hO.2.2.2.2.2.2.2.2.2.2.2 q z)), fun x hx => hO.2.2.2.2.2.2.2.2.2.2.2 _ (hS.2.2 x hx)⟩
theorem k_strlen (hO : OKd p R s m args meth c D cy B0 ka va A cc own nL)  (hlk : Cond.methodLink own 43 yJ0_length_8abf5 ∈ lw_g) (hf : 1 + 1 ≤ R.frames) (hlo : 8 + (1 + 11) + 20 ≤ R.locals) (hc0 : cells ≤ R.cells) (hs0 : slots ≤ R.slots) (hroom : (st.map fun v => v.category).sum ≤ 8) (hdg : decode cc pc = .ok (.invokevirtual 43, 3)) (K : BC p l e R s m args below meth c D A nL Q (pc + 3) lv (.int 121 :: st) ws cells slots) : BC p l e R s m args below meth c D A nL Q pc lv (.ref ka :: st) ws cells slots := fun H locs ls hP hD hS hl => by
  refine vp_callSi (W.runV (C := "java/lang/String") (As := []) (rest := st) ⟨hO.1, hO.2.1, hO.2.2.1, hO.2.2.2.1, hO.2.2.2.2.1⟩ (scJ0_length_8abf5) ⟨callB_of 0 hO.2.2.2.2.1 (gd_all mdJ0_length_8abf5) rfl rfl rfl (hO.2.2.2.2.1 _ w126) (hO.2.2.2.2.1 _ hlk) mdJ0_length_8abf5.2.2.1 ⟨hf, hlo⟩, hO.2.2.2.2.1 _ w296, hO.2.2.2.2.1 _ w297⟩ ⟨SC_blind, vk_recv hO.2.2.2.2.2.2.2.2.2.2.1.2.2.2.1 (i := 0) (by decide) (k_E hO hS), fun U hU hW => ⟨rfl, EX.st hW (fun a h1 h2 => by rw [hU]; exact (k_E hO hS).2.1 a h1 h2) hO.2.2.2.2.2.2.2.2.2.2.1⟩⟩ rfl rfl hl.1 rfl (lv_room hroom) hdg ⟨hc0, hs0⟩) (fun r_ hr_ => ?_)
  subst hr_
  exact K H locs ls hP hD hS hl
theorem k_charAt (hO : OKd p R s m args meth c D cy B0 ka va A cc own nL) {k : Nat} {i v : Int32} (hk : k < 121) (hi : nI k = i) (hv : owB.getD k 0 = v) (hlk : Cond.methodLink own 49 yJ0_charAt_5068e ∈ lw_g) (hf : 3 + 1 ≤ R.frames) (hlo : 8 + (2 + 11) + 80 ≤ R.locals) (hc0 : cells ≤ R.cells) (hs0 : slots ≤ R.slots) (hroom : (st.map fun v => v.category).sum ≤ 8) (hdg : decode cc pc = .ok (.invokevirtual 49, 3)) (K : BC p l e R s m args below meth c D A nL Q (pc + 3) lv (.int v :: st) ws cells slots) : BC p l e R s m args below meth c D A nL Q pc lv (.int i :: .ref ka :: st) ws cells slots := fun H locs ls hP hD hS hl => by
  refine vp_callSi (W.runV (C := "java/lang/String") (As := [.int i]) (rest := st) ⟨hO.1, hO.2.1, hO.2.2.1, hO.2.2.2.1, hO.2.2.2.2.1⟩ ((show SC l cy B0 ka va yJ0_charAt_5068e cJ0_charAt_5068e 2 (some .char) _ [.ref ka, .int i] v by rw [← hi, ← hv]; exact scJ0_charAt_5068e hk)) ⟨callB_of 1 hO.2.2.2.2.1 (gd_all mdJ0_charAt_5068e) rfl rfl rfl (hO.2.2.2.2.1 _ w126) (hO.2.2.2.2.1 _ hlk) mdJ0_charAt_5068e.2.2.1 ⟨hf, hlo⟩, hO.2.2.2.2.1 _ w306, hO.2.2.2.2.1 _ w307⟩ ⟨SC_blind, vk_recv hO.2.2.2.2.2.2.2.2.2.2.1.2.2.2.1 (i := 0) (by decide) (k_E hO hS), fun U hU hW => ⟨rfl, EX.st hW (fun a h1 h2 => by rw [hU]; exact (k_E hO hS).2.1 a h1 h2) hO.2.2.2.2.2.2.2.2.2.2.1⟩⟩ rfl rfl hl.1 rfl (lv_room hroom) hdg ⟨hc0, hs0⟩) (fun r_ hr_ => ?_)
  subst hr_
  exact K H locs ls hP hD hS hl
theorem L0_P {M : Mem} {H : Heap} {ad : Nat → Nat} : WD L0 D cy ad M H := ⟨fun k q h => by simp [wl, L0, Lay.nn] at h, fun k h => absurd h (by show ¬ (99 : Nat) < 99; decide)⟩
theorem k_fill (hO : OKd p R s m args meth c D cy B0 ka va A cc own nL) {x y v : Int32} (hv : fX8_fillUp 10 x y M00 = some (v, M00)) (hlk : Cond.methodLink own 53 yX8_fillUp ∈ lw_g) (hf : 1 + 1 ≤ R.frames) (hlo : 8 + (4 + 11) + 64 ≤ R.locals) (hc0 : cells ≤ R.cells) (hs0 : slots ≤ R.slots) (hroom : (st.map fun v => v.category).sum ≤ 8) (hdg : decode cc pc = .ok (.invokestatic 53, 3)) (K : BC p l e R s m args below meth c D A nL Q (pc + 3) lv (.int v :: st) ws cells slots) : BC p l e R s m args below meth c D A nL Q pc lv (.int y :: .int x :: st) ws cells slots := fun H locs ls hP hD hS hl => by
  have hI : Inj L0 (fun _ => 0) := fun i j h => absurd h (Nat.not_lt_zero _)
  refine va_calli (va_runS (As := [.int x, .int y]) (rest := st) ⟨hO.1, hO.2.1, hO.2.2.1, hO.2.2.2.1, hO.2.2.2.2.1⟩ (ctX8_fillUpz (l := l) (D := D) (cy := cy) 10 hI x y M00 _ hv) ⟨callB_of 2 hO.2.2.2.2.1 (gd_all mdX8_fillUp) rfl rfl rfl (hO.2.2.2.2.1 _ w125) (hO.2.2.2.2.1 _ hlk) mdX8_fillUp.2.2.1 ⟨hf, hlo⟩, hO.2.2.2.2.1 _ w344⟩ ⟨WT_blind, fun U hU hw => ⟨rfl, L0_P, va_K.moved hw.alike hO.2.2.2.2.2.1⟩⟩ rfl rfl hl.1 rfl (lv_room hroom) hdg ⟨hc0, hs0⟩) hS (fun q _ h => by obtain ⟨j, hj, -⟩ := h; exact absurd hj (Nat.not_lt_zero _)) (fun q h => by obtain ⟨j, hj, -⟩ := h; exact absurd hj (Nat.not_lt_zero _)) (fun r u t H1 locs1 ht hvm hw hB hz hk hS1 => ?_)
  cases hw
  have hkeep : ∀ q : Nat, q < H.size → H1[q]? = H[q]? := fun q hq => hk q hq (fun h => by obtain ⟨j, hj, -⟩ := h; exact absurd hj (Nat.not_lt_zero _))
  exact K H1 locs1 ls (hP.kept (fun k9 x9 hx9 => hkeep x9.1 ((hP k9 x9 hx9).lt))) hD hS1 hl
end TROWS
