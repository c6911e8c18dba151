/-! SUMS AND TESTS: both readers side by side -/
def En (L s qf b c0 dp m bs op pw : Nat) (lx : List Int32) (ly : List (Int32 × Int32)) (MX MY : Mem) : Prop :=
  PR L s MX MY ∧ gR MX 257 = qf ∧ (qf = 43 ∨ qf = 45 ∨ qf = 59 ∨ qf = 61) ∧ xlist MX qf lx ∧ YP b c0 dp m bs op [] ly MY ∧ (gI MX 258 = gI MY 35 ∧ (gI MX 258 = 0 ∨ gI MX 258 = 1)) ∧ dp ≤ op + 1 ∧ m ≤ pw ∧ c0 + lx.length + pw ≤ s ∧ ly.length ≤ lx.length ∧ gI MY 45 = 0
/-- behind a phrase, from the entry (MX, MY) on -/
def St (n0 L s qf b c0 dp m bs op pw : Nat) (lx : List Int32) (ly : List (Int32 × Int32)) (MX MY : Mem) (rl r D : Nat) (t : Bool) (MX' MY' : Mem) (s' k : Nat) (δ : List (Int32 × Int32)) (R : List Int32) (ly' : List (Int32 × Int32)) : Prop :=
  (∀ w, YLp n0 (w + k) MY = YLp n0 w MY') ∧ s + k ≤ s' ∧ s < s' ∧ PR L s' MX' MY' ∧ xlist MX' qf (lx ++ exL δ) ∧ YP b c0 dp m bs op R ly' MY' ∧ ly' ++ fl R = ly ++ δ ∧ (∀ o ∈ R, r ≤ rkI o) ∧ R.length ≤ rl ∧ c0 + (lx ++ exL δ).length + pw ≤ s' ∧ gI MY' 45 = 1 ∧ (∀ st, st.length + D ≤ 60 → tyL δ st = some (t :: st)) ∧ 0 < δ.length ∧ FPx qf MX MX' ∧ FP b (c0 + ly.length) dp m MY MY' ∧ ly.length ≤ ly'.length
def Ok (n0 L s qf b c0 dp m bs op pw : Nat) (lx : List Int32) (ly : List (Int32 × Int32)) (MX MY : Mem) (rl r D : Nat) (t : Bool) (Q : Mem → Mem → Prop) (rx : Option (Int32 × Mem)) : Prop :=
  ∃ MX' MY' s' k δ R ly', rx = some (1, MX') ∧ St n0 L s qf b c0 dp m bs op pw lx ly MX MY rl r D t MX' MY' s' k δ R ly' ∧ Q MX' MY'
def Bad (n0 s qf b c0 dp m : Nat) (ly : List (Int32 × Int32)) (MX MY : Mem) (rx : Option (Int32 × Mem)) : Prop :=
  ∃ MX' MY' k, rx = some (0, MX') ∧ (∀ w, YLp n0 (w + k) MY = some MY') ∧ s + k ≤ 1602 ∧ Flt MX' MY' ∧ FPx qf MX MX' ∧ FP b (c0 + ly.length) dp m MY MY'
theorem exL_app {a b : List (Int32 × Int32)} : exL (a ++ b) = exL a ++ exL b := by unfold exL; exact List.flatMap_append
theorem exL_one {c : Int32 × Int32} : exL [c] = ex1 c := by unfold exL; simp
theorem ex1_len {c : Int32 × Int32} : 1 ≤ (ex1 c).length := by
  unfold ex1
  repeat' split
  all_goals simp
theorem exL_len {δ : List (Int32 × Int32)} : δ.length ≤ (exL δ).length := by
  induction δ with
  | nil => simp
  | cons c δ ih =>
    rw [show c :: δ = [c] ++ δ from rfl, exL_app, exL_one, List.length_append, List.length_append]
    have := ex1_len (c := c)
    simp
    omega
theorem tyL_app : ∀ {a b : List (Int32 × Int32)} {st : List Bool}, tyL (a ++ b) st = (tyL a st).bind (tyL b)
  | [], _, _ => rfl
  | c :: a, b, st => by
    show (ty1 c st).bind (tyL (a ++ b)) = ((ty1 c st).bind (tyL a)).bind (tyL b)
    cases ty1 c st with
    | none => rfl
    | some st' => exact tyL_app
theorem tyL_one {c : Int32 × Int32} {st : List Bool} : tyL [c] st = ty1 c st := by
  show (ty1 c st).bind (tyL []) = _
  cases ty1 c st with
  | none => rfl
  | some st' => rfl
/-- what the class adds to its formula -/
def xAd (qf n : Nat) (x : Int32) (M : Mem) : Mem := sI (sA M (qf + 1) n x) (128 * qf + 1) (nI (n + 1))
theorem xAd_FP {qf n : Nat} {x : Int32} {M : Mem} : FPx qf M (xAd qf n x M) := ⟨fun k q => by unfold xAd; rw [gI_ne (by omega)]; rfl, fun a q => by unfold xAd; show gA (sA M (qf + 1) n x) a = _; rw [gA_sA_ne q], rfl⟩
theorem PR.xad {L s qf n : Nat} {x : Int32} {MX MY : Mem} (h : PR L s MX MY) (hq : qf = 43 ∨ qf = 45 ∨ qf = 59 ∨ qf = 61) : PR L s (xAd qf n x MX) MY := by
  refine h.cong (fun j h1 h2 => ?_) ?_ ?_ ?_ (fun _ _ => rfl) rfl rfl
  · unfold xAd; rw [gI_ne (by omega)]; rfl
  · unfold xAd; rw [gI_ne (by omega)]; rfl
  · unfold xAd; show gA (sA MX (qf + 1) n x) 4 = _; rw [gA_sA_ne (by omega)]
  · unfold xAd; show gA (sA MX (qf + 1) n x) 6 = _; rw [gA_sA_ne (by omega)]
theorem xlist.ad {n0 qf : Nat} {x : Int32} {l : List Int32} {M : Mem} (h : xlist M qf l) (hl : l.length < 1600) : fX0_add n0 qf x M = some (xAd qf l.length x M) ∧ xlist (xAd qf l.length x M) qf (l ++ [x]) := h.add hl
theorem xlist.fi {qf : Nat} {l : List Int32} {M M' : Mem} (h : xlist M qf l) (hf : FI 386 392 M M') (hq : qf = 43 ∨ qf = 45 ∨ qf = 59 ∨ qf = 61) : xlist M' qf l := h.cong (hf.2 _ (by omega)) (by rw [hf.A])
theorem xAA {n0 L s qf : Nat} {x : Int32} {lx : List Int32} {MX MX' : Mem} (hx : xlist MX qf lx) (h257 : gR MX 257 = qf) (hl : lx.length < 1600) (ha : fX8_advance n0 (xAd qf lx.length x MX) = some MX') : fX3_addAndAdvance n0 x MX = some (1, MX') := by
  unfold fX3_addAndAdvance
  rw [h257]
  exact eq_b (hx.ad hl).1 (eq_b ha rfl)
theorem En.sL {L s qf b c0 dp m bs op pw : Nat} {lx : List Int32} {ly : List (Int32 × Int32)} {MX MY : Mem} (h : En L s qf b c0 dp m bs op pw lx ly MX MY) : s ≤ 1600 := by
  have := h.1.2.1.2.2.1
  have := h.1.L16
  omega
/-- a fault that both tell at once -/
theorem badOp {n0 L s qf b c0 dp m bs op pw k : Nat} {p r : Int32} {lx : List Int32} {ly : List (Int32 × Int32)} {MX MY M1 : Mem} {rx : Option (Int32 × Mem)} (h : En L s qf b c0 dp m bs op pw lx ly MX MY) (h1 : 1 ≤ k) (h6 : k ≤ 6) (hr : r = 0 ∨ r = 1) (hx : rx = some (0, sI (sI MX 391 (nI k)) 392 p)) (hf : FP b (c0 + ly.length) dp m MY M1) (hy : fX12_operand n0 MY = some (r, sI (sI M1 8 (nI k)) 9 p)) : Bad n0 s qf b c0 dp m ly MX MY rx := by
  have n8 : ¬ gI (sI (sI M1 8 (nI k)) 9 p) 8 = 0 := pos_ne (n8f h1 h6)
  have := h.sL
  refine ⟨_, sI (sI (sI M1 8 (nI k)) 9 p) 45 r, 2, hx, fun w => ylopF h.2.2.2.2.2.2.2.2.2.2 hr hy n8, by omega, ?_, FIf.p, ((hf.i (by unfold pInt; omega)).i (by unfold pInt; omega)).i (by unfold pInt; omega)⟩
  exact (Flt.mk (MX := MX) (MY := M1) (p := p) h1 h6).cong rfl rfl (gI_ne (by decide)) (gI_ne (by decide))
/-- a value -/
theorem leafP {n0 L s qf b c0 dp m bs op pw D rl r : Nat} {so v x : Int32} {t : Bool} {lx : List Int32} {ly : List (Int32 × Int32)} {MX MY M1 : Mem} {rx : Option (Int32 × Mem)} {Q : Mem → Mem → Prop} (f : Mem → Mem) (hn : 1601 ≤ n0) (h : En L s qf b c0 dp m bs op pw lx ly MX MY) (hs : s < L) (h1 : PR L s MX M1) (h2 : YP b c0 dp m bs op [] ly M1) (h3 : FP b (c0 + ly.length) dp m MY M1)
    (hf1 : PR L s (xAd qf lx.length x MX) (f (yAdd M1 b (c0 + ly.length) so v))) (hf2 : YP b c0 dp m bs op [] (ly ++ [(so, v)]) (f (yAdd M1 b (c0 + ly.length) so v))) (hf3 : FP b (c0 + ly.length) dp m (yAdd M1 b (c0 + ly.length) so v) (f (yAdd M1 b (c0 + ly.length) so v)))
    (hy : fX12_operand n0 MY = (fX12_add n0 so v M1).bind fun z => (fX12_ahead n0 (f z)).bind fun z2 => some (1, z2)) (hx : ∀ MX', fX3_addAndAdvance n0 x MX = some (1, MX') → rx = some (1, MX')) (hex : ex1 (so, v) = [x]) (hty : ∀ st : List Bool, st.length < 60 → ty1 (so, v) st = some (t :: st)) (hD : 1 ≤ D) (hQ : ∀ MX' MY', FrY (f (yAdd M1 b (c0 + ly.length) so v)) MY' → Q MX' (sI MY' 45 1)) :
    Ok n0 L s qf b c0 dp m bs op pw lx ly MX MY rl r D t Q rx := by
  obtain ⟨hP, h257, hq, hxl, hYP, h258, hdo, hmp, hcs, hll, h45⟩ := h
  have hL16 := hP.L16
  have hlx : lx.length < 1600 := by omega
  obtain ⟨ea, ya⟩ := h2.add (n0 := n0) (x := so) (y := v) (by omega)
  obtain ⟨MX', MY', s', ax, ay, hs', hP', fx, fy⟩ := hf1.adv hn hs
  have fY := fy.Y
  have h8 : gI MY' 8 = 0 := hP'.f8
  refine ⟨MX', sI MY' 45 1, s', 1, [(so, v)], [], ly ++ [(so, v)], hx _ (xAA (L := L) (s := s) hxl h257 hlx ax), ⟨fun w => ylop h45 (Or.inr rfl) (hy.trans (eq_b ea (eq_b ay rfl))) h8, by omega, hs', hP'.in_ (by decide), ?_, ?_, by simp [fl], fun o ho => by simp at ho, by simp, ?_, gI_at, fun st hst => by rw [tyL_one]; exact hty st (by omega), by simp, ?_, ?_, by simp⟩, hQ _ _ fY⟩
  · rw [exL_one, hex]
    exact ((hxl.ad (n0 := n0) (x := x) hlx).2).fi (fx.wk (by decide) (by decide)) hq
  · exact (hf2.tok fY).cong (fun k hk => gI_ne (by omega)) (fun a _ => rfl)
  · rw [exL_one, hex]
    simp
    omega
  · exact xAd_FP.tr (fx.wk (a' := 386) (b' := 392) (by decide) (by decide)).p
  · exact (((h3.tr (yAdd_FP (by omega))).tr hf3).tr fY.p).i (by unfold pInt; omega)
/-- a sign is held back: from behind a phrase to the entry of the next one -/
def Nx (n0 L qf b c0 dp m bs op pw : Nat) (lx : List Int32) (ly : List (Int32 × Int32)) (MXc MYc : Mem) (sc cl : Nat) (opc : Int32) (MX1 MY1 : Mem) (s1 : Nat) : Prop :=
  fX8_advance n0 MXc = some MX1 ∧ (∀ w, YLp n0 (w + 1) MYc = YLp n0 w MY1) ∧ sc < s1 ∧ En L s1 qf b c0 dp (m + 1) bs op (pw + 1) lx ly MX1 MY1 ∧ gA MY1 26 m = opc ∧ FP b cl dp m MYc MY1 ∧ FI 386 392 MXc MX1
theorem comb {n0 L s qf b c0 dp m bs op pw rl r D rl2 r2 D2 : Nat} {ta tb tc : Bool} {opc x : Int32} {lx : List Int32} {ly : List (Int32 × Int32)} {MX MY MXc MYc MX1 MY1 MX2 MY2 : Mem} {sc k s1 s2 k2 rlc : Nat} {δ δ2 ly2 : List (Int32 × Int32)} {R R2 : List Int32} {lyc : List (Int32 × Int32)} (hn : 1601 ≤ n0) (h : En L s qf b c0 dp m bs op pw lx ly MX MY) (hS : St n0 L s qf b c0 dp m bs op pw lx ly MX MY rl r D ta MXc MYc sc k δ R lyc) (hN : Nx n0 L qf b c0 dp m bs op pw (lx ++ exL δ) (ly ++ δ) MXc MYc sc (c0 + ly.length) opc MX1 MY1 s1) (hS2 : St n0 L s1 qf b c0 dp (m + 1) bs op (pw + 1) (lx ++ exL δ) (ly ++ δ) MX1 MY1 rl2 r2 D2 tb MX2 MY2 s2 k2 δ2 R2 ly2) (ho : ¬ opc = 43) (hex : ex1 (opc, 0) = [x]) (hr : r ≤ rkI opc ∧ r ≤ r2) (hl : rl2 + 1 ≤ rlc) (hty : ∀ st : List Bool, ty1 (opc, 0) (tb :: ta :: st) = some (tc :: st)) (hD : D2 + 1 ≤ D) :
    fX0_add n0 (gR MX2 257) x MX2 = some (xAd qf (lx ++ exL δ ++ exL δ2).length x MX2) ∧ St n0 L s qf b c0 dp m bs op pw lx ly MX MY rlc r D tc (xAd qf (lx ++ exL δ ++ exL δ2).length x MX2) MY2 s2 (k2 + 1 + k) (δ ++ δ2 ++ [(opc, 0)]) (R2 ++ [opc]) ly2 := by
  obtain ⟨hP, h257, hq, hxl, hYP, h258, hdo, hmp, hcs, hll, h45⟩ := h
  obtain ⟨a1, a2, a3, a4, a5, a6, a7, a8, a9, a10, a11, a12, a13, a14, a15, a16⟩ := hS
  obtain ⟨n1, n2, n3, n4, n5, n6, n7⟩ := hN
  obtain ⟨b1, b2, b3, b4, b5, b6, b7, b8, b9, b10, b11, b12, b13, b14, b15, b16⟩ := hS2
  have sL := b4.2.1.2.2.1
  have hL16 := b4.L16
  have hlen : (lx ++ exL δ ++ exL δ2).length < 1600 := by omega
  have g257 : gR MX2 257 = qf := by rw [b14.2.2, n7.R, a14.2.2]; exact h257
  obtain ⟨e1, e2⟩ := b5.ad (n0 := n0) (x := x) hlen
  have o26 : gA MY2 26 m = opc := (b15.2.1 26 m (by unfold pReg; omega)).trans n5
  have hbs := hYP.2.2.2.2.2.1
  have eex : exL (δ ++ δ2 ++ [(opc, 0)]) = exL δ ++ exL δ2 ++ [x] := by rw [exL_app, exL_app, exL_one, hex]
  refine ⟨by rw [g257]; exact e1, fun w => ?_, by omega, by omega, b4.xad hq, ?_, ?_, ?_, ?_, by rw [List.length_append]; simp; omega, ?_, b11, ?_, by simp; omega, ?_, ?_, by rw [List.length_append] at b16; omega⟩
  · rw [show w + (k2 + 1 + k) = w + k2 + 1 + k by omega, a1, n2, b1]
  · rw [eex, ← List.append_assoc, ← List.append_assoc]
    exact e2
  · refine YP.down (R0 := [opc]) (m := m) (op := op) ?_ ⟨o26, trivial⟩ hbs
    have : nots [opc] = 0 := by
      show (if opc = 43 then 1 else 0) + nots [] = 0
      rw [if_neg ho]
      rfl
    rw [this]
    exact b6
  · rw [show fl (R2 ++ [opc]) = fl R2 ++ [(opc, 0)] by simp [fl], ← List.append_assoc, b7]
    simp
  · intro o ho2
    rcases List.mem_append.mp ho2 with q | q
    · exact Nat.le_trans hr.2 (b8 o q)
    · rw [List.mem_singleton] at q
      rw [q]
      exact hr.1
  · rw [eex]
    simp only [List.length_append, List.length_cons, List.length_nil] at b10 ⊢
    omega
  · intro st hst
    rw [tyL_app, tyL_app, a12 st hst]
    show ((tyL δ2 (ta :: st)).bind (tyL [(opc, 0)])) = _
    rw [b12 (ta :: st) (by simp; omega)]
    show tyL [(opc, 0)] (tb :: ta :: st) = _
    rw [tyL_one]
    exact hty st
  · exact ((a14.tr n7.p).tr b14).tr xAd_FP
  · have := List.length_append (as := ly) (bs := δ)
    exact (a15.tr n6).tr (b15.wk (by omega) (by omega) (by omega))
theorem St.len {n0 L s qf b c0 dp m bs op pw rl r D : Nat} {t : Bool} {lx : List Int32} {ly : List (Int32 × Int32)} {MX MY MX' MY' : Mem} {s' k : Nat} {δ : List (Int32 × Int32)} {R : List Int32} {ly' : List (Int32 × Int32)} (h : En L s qf b c0 dp m bs op pw lx ly MX MY) (hS : St n0 L s qf b c0 dp m bs op pw lx ly MX MY rl r D t MX' MY' s' k δ R ly') : c0 + ly'.length + R.length + pw ≤ s' ∧ ly'.length + R.length = ly.length + δ.length ∧ ly.length + δ.length ≤ (lx ++ exL δ).length ∧ s' ≤ 1600 := by
  have h1 := congrArg List.length hS.2.2.2.2.2.2.1
  have h2 := exL_len (δ := δ)
  have h3 := h.2.2.2.2.2.2.2.2.2.1
  have h4 := hS.2.2.2.2.2.2.2.2.2.1
  have h5 := hS.2.2.2.1.2.1.2.2.1
  have h6 := hS.2.2.2.1.L16
  rw [List.length_append, List.length_append, show (fl R).length = R.length by simp [fl]] at h1
  rw [List.length_append] at h4 ⊢
  omega
