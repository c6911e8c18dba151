/-! SUMS AND TESTS: the state of the reference's reader, its steps -/
def YP (b c0 dp m bs op : Nat) (R : List Int32) (ly : List (Int32 × Int32)) (M : Mem) : Prop :=
  gI M 34 = nI b ∧ b ≤ 1 ∧ gI M 41 = nI dp ∧ (1 ≤ dp ∧ dp ≤ 9) ∧ gA M 25 (dp - 1) = nI bs ∧ bs ≤ m ∧ gI M 44 = nI (m + R.length) ∧ OpsR M m R ∧ m + R.length ≤ 400 ∧ gI M 33 = nI (c0 + ly.length) ∧ ylist M b c0 ly ∧ gI M 42 = nI (op + nots R) ∧ op + nots R ≤ 7
theorem YP.cong {b c0 dp m bs op : Nat} {R : List Int32} {ly : List (Int32 × Int32)} {M M' : Mem} (h : YP b c0 dp m bs op R ly M) (hi : ∀ k, k = 33 ∨ k = 34 ∨ k = 41 ∨ k = 42 ∨ k = 44 → gI M' k = gI M k) (ha : ∀ a, a = 16 ∨ a = 17 ∨ a = 25 ∨ a = 26 → gA M' a = gA M a) : YP b c0 dp m bs op R ly M' := by
  obtain ⟨h1, h2, h3, h4, h5, h6, h7, h8, h9, h10, h11, h12, h13⟩ := h
  refine ⟨?_, h2, ?_, h4, ?_, h6, ?_, ?_, h9, ?_, ?_, ?_, h13⟩
  · rw [hi 34 (by omega)]; exact h1
  · rw [hi 41 (by omega)]; exact h3
  · rw [ha 25 (by omega)]; exact h5
  · rw [hi 44 (by omega)]; exact h7
  · exact h8.cong (fun i _ _ => by rw [ha 26 (by omega)])
  · rw [hi 33 (by omega)]; exact h10
  · exact h11.cong (fun i _ => by rw [ha 16 (by omega), ha 17 (by omega)]; exact ⟨rfl, rfl⟩)
  · rw [hi 42 (by omega)]; exact h12
theorem YP.tok {b c0 dp m bs op : Nat} {R : List Int32} {ly : List (Int32 × Int32)} {M M' : Mem} (h : YP b c0 dp m bs op R ly M) (hf : FrY M M') : YP b c0 dp m bs op R ly M' := h.cong (fun k hk => hf.1 k (by omega)) (fun a _ => hf.2.1 a id)
theorem YP.up {b c0 dp m bs op : Nat} {R : List Int32} {ly : List (Int32 × Int32)} {M : Mem} (h : YP b c0 dp m bs op R ly M) : YP b c0 dp (m + R.length) bs (op + nots R) [] ly M := by
  obtain ⟨h1, h2, h3, h4, h5, h6, h7, h8, h9, h10, h11, h12, h13⟩ := h
  exact ⟨h1, h2, h3, h4, h5, by omega, h7, trivial, h9, h10, h11, h12, h13⟩
theorem YP.down {b c0 dp m bs op : Nat} {R0 R : List Int32} {ly : List (Int32 × Int32)} {M : Mem} (h : YP b c0 dp (m + R0.length) bs (op + nots R0) R ly M) (h0 : OpsR M m R0) (hm : bs ≤ m) : YP b c0 dp m bs op (R ++ R0) ly M := by
  obtain ⟨h1, h2, h3, h4, h5, h6, h7, h8, h9, h10, h11, h12, h13⟩ := h
  refine ⟨h1, h2, h3, h4, h5, hm, ?_, h0.app h8, ?_, h10, h11, ?_, ?_⟩
  · rw [h7, List.length_append]; congr 1; omega
  · rw [List.length_append]; omega
  · rw [h12, nots_app]; congr 1; omega
  · rw [nots_app]; omega
/-- what may change while a phrase is read: codes from c on, frames from dp on (of the last one phase and begins), signs from m on -/
def pReg (b c dp m a i : Nat) : Prop := ((a = 16 ∨ a = 17) ∧ 1600 * b + c ≤ i ∧ i < 1600 * b + 1600) ∨ ((a = 21 ∨ a = 24 ∨ a = 25) ∧ dp ≤ i) ∨ ((a = 22 ∨ a = 23) ∧ dp ≤ i + 1) ∨ (a = 26 ∧ m ≤ i)
def pInt (k : Nat) : Prop := (3 ≤ k ∧ k ≤ 9) ∨ k = 12 ∨ k = 33 ∨ k = 41 ∨ k = 42 ∨ k = 44 ∨ k = 45
def FP (b c dp m : Nat) (M M' : Mem) : Prop := (∀ k, ¬ pInt k → gI M' k = gI M k) ∧ (∀ a i, ¬ pReg b c dp m a i → gA M' a i = gA M a i) ∧ (∀ k, k ≠ 7 → gL M' k = gL M k) ∧ ∀ a i, gB M' a i = gB M a i
theorem FP.r {b c dp m : Nat} {M : Mem} : FP b c dp m M M := ⟨fun _ _ => rfl, fun _ _ _ => rfl, fun _ _ => rfl, fun _ _ => rfl⟩
theorem FP.tr {b c dp m : Nat} {M M' M2 : Mem} (h : FP b c dp m M M') (g : FP b c dp m M' M2) : FP b c dp m M M2 := ⟨fun k q => (g.1 k q).trans (h.1 k q), fun a i q => (g.2.1 a i q).trans (h.2.1 a i q), fun k q => (g.2.2.1 k q).trans (h.2.2.1 k q), fun a i => (g.2.2.2 a i).trans (h.2.2.2 a i)⟩
theorem FP.wk {b c dp m c' dp' m' : Nat} {M M' : Mem} (h : FP b c dp m M M') (h1 : c' ≤ c) (h2 : dp' ≤ dp) (h3 : m' ≤ m) : FP b c' dp' m' M M' := ⟨h.1, fun a i q => h.2.1 a i (fun g => q (by unfold pReg at g ⊢; omega)), h.2.2⟩
theorem FP.i {b c dp m k : Nat} {v : Int32} {M M' : Mem} (h : FP b c dp m M M') (hk : pInt k) : FP b c dp m M (sI M' k v) := ⟨fun j q => by rw [gI_ne (fun e => q (by rw [e]; exact hk))]; exact h.1 j q, h.2⟩
theorem FP.a {b c dp m a i : Nat} {v : Int32} {M M' : Mem} (h : FP b c dp m M M') (hk : pReg b c dp m a i) : FP b c dp m M (sA M' a i v) := ⟨h.1, fun e j q => by
  rw [gA_sA]
  by_cases g : e = a
  · subst g
    rw [if_pos rfl, if_neg (fun e => q (by rw [e]; exact hk))]
    exact h.2.1 _ _ q
  · rw [if_neg g]
    exact h.2.1 _ _ q, h.2.2⟩
theorem FrY.p {b c dp m : Nat} {M M' : Mem} (h : FrY M M') : FP b c dp m M M' := ⟨fun k q => h.1 k (fun g => q (by unfold pInt; omega)), fun a i _ => by rw [h.2.1 a id], fun k q => h.2.2.2.1 k q, fun a i => by rw [h.2.2.2.2 a id]⟩
theorem FrJ.p {b c dp m : Nat} {M M' : Mem} (h : FrJ b c M M') : FP b c dp m M M' := ⟨fun k q => h.1 k (fun g => q (by unfold pInt; omega)) (fun g => q (by unfold pInt; omega)) (fun g => q (by unfold pInt; omega)), fun a i q => h.2.1 a i (fun g => q (by unfold pReg; omega)), fun k _ => by rw [h.2.2.1], fun a i => by rw [h.2.2.2]⟩
theorem FP.Y2 {b c dp m : Nat} {M M' : Mem} (h : FP b c dp m M M') : FY2 b M M' := ⟨fun k q => h.1 k (fun g => q (by unfold pInt at g; unfold regI; omega)), fun a i q => h.2.1 a i (fun g => q (by unfold pReg at g; unfold regA; omega)), h.2.2.1, fun a i _ => h.2.2.2 a i⟩
/-- what the class may change while it reads a phrase into the formula at qf -/
def FPx (qf : Nat) (M M' : Mem) : Prop := (∀ k, ¬ ((386 ≤ k ∧ k ≤ 392) ∨ k = 128 * qf + 1) → gI M' k = gI M k) ∧ (∀ a, a ≠ qf + 1 → gA M' a = gA M a) ∧ gR M' = gR M
theorem FPx.r {qf : Nat} {M : Mem} : FPx qf M M := ⟨fun _ _ => rfl, fun _ _ => rfl, rfl⟩
theorem FPx.tr {qf : Nat} {M M' M2 : Mem} (h : FPx qf M M') (g : FPx qf M' M2) : FPx qf M M2 := ⟨fun k q => (g.1 k q).trans (h.1 k q), fun a q => (g.2.1 a q).trans (h.2.1 a q), g.2.2.trans h.2.2⟩
theorem FI.p {qf : Nat} {M M' : Mem} (h : FI 386 392 M M') : FPx qf M M' := ⟨fun k q => h.2 k (by omega), fun a _ => by rw [h.A], h.R⟩
-- the loop
def YLp (n0 w : Nat) (M : Mem) : Option Mem := loopN (bX12_reads_43 n0) (fun _ _ => none) w 1 M
theorem yl0 {n0 w : Nat} {M : Mem} : loopN (bX12_reads_43 n0) (fun _ _ => none) (w + 1) 0 M = some M := by
  rw [lpS, bX12_reads_43]
  exact eq_t rfl rfl
theorem ylop {n0 w : Nat} {r : Int32} {M M' : Mem} (h45 : gI M 45 = 0) (hr : r = 0 ∨ r = 1) (h : fX12_operand n0 M = some (r, M')) (h8 : gI M' 8 = 0) : YLp n0 (w + 1) M = YLp n0 w (sI M' 45 r) := by
  unfold YLp
  rw [lpS, bX12_reads_43]
  unfold fX12_reads_70 fX12_reads_86
  exact eq_f i10 (eq_t h45 (eq_b h (eq_t hr (eq_f i10 (eq_t (by rw [gI_ne (by decide)]; exact h8) rfl)))))
theorem ylopF {n0 w : Nat} {r : Int32} {M M' : Mem} (h45 : gI M 45 = 0) (hr : r = 0 ∨ r = 1) (h : fX12_operand n0 M = some (r, M')) (h8 : ¬ gI M' 8 = 0) : YLp n0 (w + 2) M = some (sI M' 45 r) := by
  unfold YLp
  rw [lpS, bX12_reads_43]
  unfold fX12_reads_70 fX12_reads_85 fX12_reads_86
  exact eq_f i10 (eq_t h45 (eq_b h (eq_t hr (eq_f i10 (eq_f (by rw [gI_ne (by decide)]; exact h8) yl0)))))
theorem ylgo {n0 w : Nat} {M M' : Mem} (h45 : ¬ gI M 45 = 0) (h : fX12_goesOn n0 M = some (1, M')) (h8 : gI M' 8 = 0) : YLp n0 (w + 1) M = YLp n0 w M' := by
  unfold YLp
  rw [lpS, bX12_reads_43]
  unfold fX12_reads_70 fX12_reads_86
  exact eq_f i10 (eq_f h45 (eq_b h (eq_f i10 (eq_t h8 rfl))))
theorem ylgo0 {n0 w : Nat} {M M' : Mem} (h45 : ¬ gI M 45 = 0) (h : fX12_goesOn n0 M = some (0, M')) : YLp n0 (w + 2) M = some M' := by
  unfold YLp
  rw [lpS, bX12_reads_43]
  unfold fX12_reads_70 fX12_reads_85 fX12_reads_86
  exact eq_f i10 (eq_f h45 (eq_b h (eq_t rfl yl0)))
-- small steps
theorem YP.join {n0 b c0 dp m bs op least : Nat} {R : List Int32} {ly : List (Int32 × Int32)} {M : Mem} (hn : 1601 ≤ n0) (h : YP b c0 dp m bs op R ly M) (hR : ∀ o ∈ R, least ≤ rkI o) (hm : m = bs ∨ rkI (gA M 26 (m - 1)) < least) (hc : c0 + ly.length + R.length ≤ 1600) (hl : least ≤ 6) : ∃ M', fX12_joins n0 (nI least) M = some M' ∧ YP b c0 dp m bs op [] (ly ++ fl R) M' ∧ FrJ b (c0 + ly.length) M M' := by
  obtain ⟨h1, h2, h3, h4, h5, h6, h7, h8, h9, h10, h11, h12, h13⟩ := h
  obtain ⟨M', e, q1, q2, q3, q4, q5⟩ := yjoins (n0 := n0) (op0 := op) (least := least) hn h2 ⟨h4.1, by omega⟩ h6 R n0 M ly (by omega) h3 h5 h7 h8 hR hm (by omega) h1 h10 h11 hc h12 (by omega) hl
  refine ⟨M', e, ⟨(q5.1 34 (by decide) (by decide) (by decide)).trans h1, h2, (q5.1 41 (by decide) (by decide) (by decide)).trans h3, h4, ?_, h6, q1, trivial, by simp; omega, q3, q2, q4, by have : nots [] = 0 := rfl; omega⟩, q5⟩
  rw [q5.2.1 25 _ (by omega)]
  exact h5
/-- the memory behind a sign that is held back -/
def yPush (M : Mem) (k : Nat) (o : Int32) : Mem := sI (sA M 26 k o) 44 (nI (k + 1))
theorem YP.push {n0 b c0 dp m bs op : Nat} {o : Int32} {R : List Int32} {ly : List (Int32 × Int32)} {M : Mem} (h : YP b c0 dp m bs op R ly M) (ho : ¬ o = 43) (hr : m + R.length < 400) : fX12_holdsBack n0 o M = some (yPush M (m + R.length) o) ∧ YP b c0 dp m bs op (o :: R) ly (yPush M (m + R.length) o) := by
  obtain ⟨h1, h2, h3, h4, h5, h6, h7, h8, h9, h10, h11, h12, h13⟩ := h
  have hno : nots (o :: R) = nots R := by
    show (if o = 43 then 1 else 0) + nots R = _
    rw [if_neg ho, Nat.zero_add]
  constructor
  · unfold fX12_holdsBack yPush
    refine eq_f (by rw [h7]; exact nI_in (by omega) (by decide)) (eq_n ?_)
    simp only [gI_sA, h7, nI_clamp (show m + R.length < 2 ^ 31 by omega), nI_1]
  · unfold yPush
    refine ⟨?_, h2, ?_, h4, ?_, h6, ?_, (h8.push (op := o)).cong (fun i _ _ => rfl), by simp; omega, ?_, ?_, ?_, by rw [hno]; exact h13⟩
    · rw [gI_ne (by decide)]; exact h1
    · rw [gI_ne (by decide)]; exact h3
    · show gA (sA M 26 (m + R.length) o) 25 _ = _
      rw [gA_sA_ne (by decide)]; exact h5
    · rw [gI_at, List.length_cons]; congr 1
    · rw [gI_ne (by decide)]; exact h10
    · exact h11.cong (fun i _ => ⟨by show gA (sA M 26 (m + R.length) o) 16 _ = _; rw [gA_sA_ne (by decide)], by show gA (sA M 26 (m + R.length) o) 17 _ = _; rw [gA_sA_ne (by decide)]⟩)
    · rw [gI_ne (by decide), hno]; exact h12
theorem YP.add {n0 b c0 dp m bs op : Nat} {x y : Int32} {R : List Int32} {ly : List (Int32 × Int32)} {M : Mem} (h : YP b c0 dp m bs op R ly M) (hl : c0 + ly.length < 1600) : fX12_add n0 x y M = some (yAdd M b (c0 + ly.length) x y) ∧ YP b c0 dp m bs op R (ly ++ [(x, y)]) (yAdd M b (c0 + ly.length) x y) := by
  obtain ⟨h1, h2, h3, h4, h5, h6, h7, h8, h9, h10, h11, h12, h13⟩ := h
  obtain ⟨a1, a2, a3⟩ := h11.add (n0 := n0) (x := x) (y := y) h2 h1 h10 hl
  have ar : ∀ a, a ≠ 16 → a ≠ 17 → gA (yAdd M b (c0 + ly.length) x y) a = gA M a := fun a p q => by
    unfold yAdd
    show gA (sA (sA M 16 _ x) 17 _ y) a = _
    rw [gA_sA_ne q, gA_sA_ne p]
  have ik : ∀ k, k ≠ 33 → gI (yAdd M b (c0 + ly.length) x y) k = gI M k := fun k p => by
    unfold yAdd
    rw [gI_ne p]
    rfl
  refine ⟨a1, by rw [ik _ (by decide)]; exact h1, h2, by rw [ik _ (by decide)]; exact h3, h4, by rw [ar _ (by decide) (by decide)]; exact h5, h6, by rw [ik _ (by decide)]; exact h7, h8.cong (fun i _ _ => by rw [ar _ (by decide) (by decide)]), h9, a3, a2, by rw [ik _ (by decide)]; exact h12, h13⟩
theorem yAdd_FP {b c dp m : Nat} {x y : Int32} {M : Mem} (hc : c < 1600) : FP b c dp m M (yAdd M b c x y) := ((FP.r.a (by unfold pReg; omega)).a (by unfold pReg; omega)).i (by unfold pInt; omega)
theorem yPush_FP {b c dp m k : Nat} {o : Int32} {M : Mem} (hk : m ≤ k) : FP b c dp m M (yPush M k o) := (FP.r.a (by unfold pReg; omega)).i (by unfold pInt; omega)
/-- PR does not see the reader's own cells -/
theorem PR.yw {L s : Nat} {MX MY MY' : Mem} (h : PR L s MX MY) (h1 : ∀ k, k ≤ 12 → gI MY' k = gI MY k) (h2 : gL MY' 7 = gL MY 7) (h3 : gA MY' 1 = gA MY 1) : PR L s MX MY' := h.cong (fun _ _ _ => rfl) rfl rfl rfl h1 h2 h3
theorem PR.add {L s b c : Nat} {x y : Int32} {MX MY : Mem} (h : PR L s MX MY) : PR L s MX (yAdd MY b c x y) := h.yw (fun k hk => by unfold yAdd; rw [gI_ne (by omega)]; rfl) rfl (by unfold yAdd; show gA (sA (sA MY 16 _ x) 17 _ y) 1 = _; rw [gA_sA_ne (by decide), gA_sA_ne (by decide)])
theorem PR.push {L s k : Nat} {o : Int32} {MX MY : Mem} (h : PR L s MX MY) : PR L s MX (yPush MY k o) := h.yw (fun k hk => by unfold yPush; rw [gI_ne (by omega)]; rfl) rfl (by unfold yPush; show gA (sA MY 26 _ o) 1 = _; rw [gA_sA_ne (by decide)])
theorem PR.jn {L s b c : Nat} {MX MY MY' : Mem} (h : PR L s MX MY) (hj : FrJ b c MY MY') : PR L s MX MY' := h.yw (fun k hk => hj.1 k (by omega) (by omega) (by omega)) (by rw [hj.2.2.1]) (by funext i; exact hj.2.1 1 i (by omega))
theorem PR.ar {L s a i : Nat} {v : Int32} {MX MY : Mem} (h : PR L s MX MY) (ha : a ≠ 1) : PR L s MX (sA MY a i v) := h.yw (fun _ _ => rfl) rfl (gA_sA_ne (fun e => ha e.symm))
theorem PR.in_ {L s k : Nat} {v : Int32} {MX MY : Mem} (h : PR L s MX MY) (hk : 12 < k) : PR L s MX (sI MY k v) := h.yw (fun j hj => gI_ne (by omega)) rfl rfl
abbrev isT (x : Int32) : Prop := x = 1 ∨ x = 5 ∨ x = 6
theorem yisT {n0 : Nat} {x : Int32} {M : Mem} : fX12_isTest n0 x M = some (bI (isT x), M) := by
  unfold fX12_isTest
  by_cases h1 : x = 1
  · rw [bI_t (Or.inl h1)]; exact eq_t h1 rfl
  · by_cases h5 : x = 5
    · rw [bI_t (Or.inr (Or.inl h5))]; exact eq_f h1 (eq_t h5 rfl)
    · by_cases h6 : x = 6
      · rw [bI_t (Or.inr (Or.inr h6))]; exact eq_f h1 (eq_f h5 (eq_t h6 rfl))
      · rw [bI_f (by rintro (h | h | h) <;> contradiction)]; exact eq_f h1 (eq_f h5 (eq_f h6 rfl))
