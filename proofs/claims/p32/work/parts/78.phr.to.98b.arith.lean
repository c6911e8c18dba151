section
/-! SUMS AND TESTS: the state of the reference's reader, its steps -/
def YP (b c0 dp m bs op : Nat) (R : List Int32) (ly : List (Int32 × Int32)) (M : Mem) : Prop :=
  gI M 34 = nI b ∧ b ≤ 1 ∧ gI M 41 = nI dp ∧ (1 ≤ dp ∧ dp ≤ 9) ∧ gA M 25 (dp - 1) = nI bs ∧ bs ≤ m ∧ gI M 44 = nI (m + R.length) ∧ OpsR M m R ∧ m + R.length ≤ 400 ∧ gI M 33 = nI (c0 + ly.length) ∧ ylist M b c0 ly ∧ gI M 42 = nI (op + nots R) ∧ op + nots R ≤ 7
theorem YP.cong {b c0 dp m bs op : Nat} {R : List Int32} {ly : List (Int32 × Int32)} {M M' : Mem} (h : YP b c0 dp m bs op R ly M) (hi : ∀ k, k = 33 ∨ k = 34 ∨ k = 41 ∨ k = 42 ∨ k = 44 → gI M' k = gI M k) (ha : ∀ a, a = 16 ∨ a = 17 ∨ a = 25 ∨ a = 26 → gA M' a = gA M a) : YP b c0 dp m bs op R ly M' := by
  obtain ⟨h1, h2, h3, h4, h5, h6, h7, h8, h9, h10, h11, h12, h13⟩ := h
  refine ⟨?_, h2, ?_, h4, ?_, h6, ?_, ?_, h9, ?_, ?_, ?_, h13⟩
  · rw [hi 34 (by omega)]; exact h1
  · rw [hi 41 (by omega)]; exact h3
  · rw [ha 25 (by omega)]; exact h5
  · rw [hi 44 (by omega)]; exact h7
  · exact h8.cong (fun i _ _ => by rw [ha 26 (by omega)])
  · rw [hi 33 (by omega)]; exact h10
  · exact h11.cong (fun i _ => by rw [ha 16 (by omega), ha 17 (by omega)]; exact ⟨rfl, rfl⟩)
  · rw [hi 42 (by omega)]; exact h12
theorem YP.tok {b c0 dp m bs op : Nat} {R : List Int32} {ly : List (Int32 × Int32)} {M M' : Mem} (h : YP b c0 dp m bs op R ly M) (hf : FrY M M') : YP b c0 dp m bs op R ly M' := h.cong (fun k hk => hf.1 k (by omega)) (fun a _ => hf.2.1 a id)
theorem YP.up {b c0 dp m bs op : Nat} {R : List Int32} {ly : List (Int32 × Int32)} {M : Mem} (h : YP b c0 dp m bs op R ly M) : YP b c0 dp (m + R.length) bs (op + nots R) [] ly M := by
  obtain ⟨h1, h2, h3, h4, h5, h6, h7, h8, h9, h10, h11, h12, h13⟩ := h
  exact ⟨h1, h2, h3, h4, h5, by omega, h7, trivial, h9, h10, h11, h12, h13⟩
theorem YP.down {b c0 dp m bs op : Nat} {R0 R : List Int32} {ly : List (Int32 × Int32)} {M : Mem} (h : YP b c0 dp (m + R0.length) bs (op + nots R0) R ly M) (h0 : OpsR M m R0) (hm : bs ≤ m) : YP b c0 dp m bs op (R ++ R0) ly M := by
  obtain ⟨h1, h2, h3, h4, h5, h6, h7, h8, h9, h10, h11, h12, h13⟩ := h
  refine ⟨h1, h2, h3, h4, h5, hm, ?_, h0.app h8, ?_, h10, h11, ?_, ?_⟩
  · rw [h7, List.length_append]; congr 1; omega
  · rw [List.length_append]; omega
  · rw [h12, nots_app]; congr 1; omega
  · rw [nots_app]; omega
/-- what may change while a phrase is read: codes from c on, frames from dp on (of the last one phase and begins), signs from m on -/
def pReg (b c dp m a i : Nat) : Prop := ((a = 16 ∨ a = 17) ∧ 1600 * b + c ≤ i ∧ i < 1600 * b + 1600) ∨ ((a = 21 ∨ a = 24 ∨ a = 25) ∧ dp ≤ i) ∨ ((a = 22 ∨ a = 23) ∧ dp ≤ i + 1) ∨ (a = 26 ∧ m ≤ i)
def pInt (k : Nat) : Prop := (3 ≤ k ∧ k ≤ 9) ∨ k = 12 ∨ k = 33 ∨ k = 41 ∨ k = 42 ∨ k = 44 ∨ k = 45
def FP (b c dp m : Nat) (M M' : Mem) : Prop := (∀ k, ¬ pInt k → gI M' k = gI M k) ∧ (∀ a i, ¬ pReg b c dp m a i → gA M' a i = gA M a i) ∧ (∀ k, k ≠ 7 → gL M' k = gL M k) ∧ ∀ a i, gB M' a i = gB M a i
theorem FP.r {b c dp m : Nat} {M : Mem} : FP b c dp m M M := ⟨fun _ _ => rfl, fun _ _ _ => rfl, fun _ _ => rfl, fun _ _ => rfl⟩
theorem FP.tr {b c dp m : Nat} {M M' M2 : Mem} (h : FP b c dp m M M') (g : FP b c dp m M' M2) : FP b c dp m M M2 := ⟨fun k q => (g.1 k q).trans (h.1 k q), fun a i q => (g.2.1 a i q).trans (h.2.1 a i q), fun k q => (g.2.2.1 k q).trans (h.2.2.1 k q), fun a i => (g.2.2.2 a i).trans (h.2.2.2 a i)⟩
theorem FP.wk {b c dp m c' dp' m' : Nat} {M M' : Mem} (h : FP b c dp m M M') (h1 : c' ≤ c) (h2 : dp' ≤ dp) (h3 : m' ≤ m) : FP b c' dp' m' M M' := ⟨h.1, fun a i q => h.2.1 a i (fun g => q (by
  rcases g with ⟨g1, g2, g3⟩ | ⟨g1, g2⟩ | ⟨g1, g2⟩ | ⟨g1, g2⟩
  · exact Or.inl ⟨g1, by omega, g3⟩
  · exact Or.inr (Or.inl ⟨g1, by omega⟩)
  · exact Or.inr (Or.inr (Or.inl ⟨g1, by omega⟩))
  · exact Or.inr (Or.inr (Or.inr ⟨g1, by omega⟩)))), h.2.2⟩
theorem FP.i {b c dp m k : Nat} {v : Int32} {M M' : Mem} (h : FP b c dp m M M') (hk : pInt k) : FP b c dp m M (sI M' k v) := ⟨fun j q => by rw [gI_ne (fun e => q (by rw [e]; exact hk))]; exact h.1 j q, h.2⟩
theorem FP.a {b c dp m a i : Nat} {v : Int32} {M M' : Mem} (h : FP b c dp m M M') (hk : pReg b c dp m a i) : FP b c dp m M (sA M' a i v) := ⟨h.1, fun e j q => by
  rw [gA_sA]
  by_cases g : e = a
  · subst g
    rw [if_pos rfl, if_neg (fun e => q (by rw [e]; exact hk))]
    exact h.2.1 _ _ q
  · rw [if_neg g]
    exact h.2.1 _ _ q, h.2.2⟩
theorem FrY.p {b c dp m : Nat} {M M' : Mem} (h : FrY M M') : FP b c dp m M M' := ⟨fun k q => h.1 k (fun g => q (by unfold pInt; omega)), fun a i _ => by rw [h.2.1 a id], fun k q => h.2.2.2.1 k q, fun a i => by rw [h.2.2.2.2 a id]⟩
theorem FrJ.p {b c dp m : Nat} {M M' : Mem} (h : FrJ b c M M') : FP b c dp m M M' := ⟨fun k q => h.1 k (fun g => q (by unfold pInt; omega)) (fun g => q (by unfold pInt; omega)) (fun g => q (by unfold pInt; omega)), fun a i q => h.2.1 a i (fun g => q (by unfold pReg; omega)), fun k _ => by rw [h.2.2.1], fun a i => by rw [h.2.2.2]⟩
theorem FP.Y2 {b c dp m : Nat} {M M' : Mem} (h : FP b c dp m M M') : FY2 b M M' := ⟨fun k q => h.1 k (fun g => q (by unfold pInt at g; unfold regI; omega)), fun a i q => h.2.1 a i (fun g => q (by
  rcases g with ⟨g1, g2, g3⟩ | ⟨g1, g2⟩ | ⟨g1, g2⟩ | ⟨g1, g2⟩
  · exact Or.inr (Or.inr (Or.inr (Or.inr (Or.inr (Or.inl ⟨g1, by omega, g3⟩)))))
  · exact Or.inr (Or.inr (Or.inr (Or.inr (Or.inr (Or.inr ⟨by omega, by omega⟩)))))
  · exact Or.inr (Or.inr (Or.inr (Or.inr (Or.inr (Or.inr ⟨by omega, by omega⟩)))))
  · exact Or.inr (Or.inr (Or.inr (Or.inr (Or.inr (Or.inr ⟨by omega, by omega⟩))))))), h.2.2.1, fun a i _ => h.2.2.2 a i⟩
/-- what the class may change while it reads a phrase into the formula at qf -/
def FPx (qf : Nat) (M M' : Mem) : Prop := (∀ k, ¬ ((386 ≤ k ∧ k ≤ 392) ∨ k = 128 * qf + 1) → gI M' k = gI M k) ∧ (∀ a, a ≠ qf + 1 → gA M' a = gA M a) ∧ gR M' = gR M
theorem FPx.r {qf : Nat} {M : Mem} : FPx qf M M := ⟨fun _ _ => rfl, fun _ _ => rfl, rfl⟩
theorem FPx.tr {qf : Nat} {M M' M2 : Mem} (h : FPx qf M M') (g : FPx qf M' M2) : FPx qf M M2 := ⟨fun k q => (g.1 k q).trans (h.1 k q), fun a q => (g.2.1 a q).trans (h.2.1 a q), g.2.2.trans h.2.2⟩
theorem FI.p {qf : Nat} {M M' : Mem} (h : FI 386 392 M M') : FPx qf M M' := ⟨fun k q => h.2 k (by omega), fun a _ => by rw [h.A], h.R⟩
-- the loop
def YLp (n0 w : Nat) (M : Mem) : Option Mem := loopN (bX12_reads_43 n0) (fun _ _ => none) w 1 M
theorem yl0 {n0 w : Nat} {M : Mem} : loopN (bX12_reads_43 n0) (fun _ _ => none) (w + 1) 0 M = some M := by
  rw [lpS, bX12_reads_43]
  exact eq_t rfl rfl
theorem ylop {n0 w : Nat} {r : Int32} {M M' : Mem} (h45 : gI M 45 = 0) (hr : r = 0 ∨ r = 1) (h : fX12_operand n0 M = some (r, M')) (h8 : gI M' 8 = 0) : YLp n0 (w + 1) M = YLp n0 w (sI M' 45 r) := by
  unfold YLp
  rw [lpS, bX12_reads_43]
  unfold fX12_reads_70 fX12_reads_86
  exact eq_f i10 (eq_t h45 (eq_b h (eq_t hr (eq_f i10 (eq_t (by rw [gI_ne (by decide)]; exact h8) rfl)))))
theorem ylopF {n0 w : Nat} {r : Int32} {M M' : Mem} (h45 : gI M 45 = 0) (hr : r = 0 ∨ r = 1) (h : fX12_operand n0 M = some (r, M')) (h8 : ¬ gI M' 8 = 0) : YLp n0 (w + 2) M = some (sI M' 45 r) := by
  unfold YLp
  rw [lpS, bX12_reads_43]
  unfold fX12_reads_70 fX12_reads_85 fX12_reads_86
  exact eq_f i10 (eq_t h45 (eq_b h (eq_t hr (eq_f i10 (eq_f (by rw [gI_ne (by decide)]; exact h8) yl0)))))
theorem ylgo {n0 w : Nat} {M M' : Mem} (h45 : ¬ gI M 45 = 0) (h : fX12_goesOn n0 M = some (1, M')) (h8 : gI M' 8 = 0) : YLp n0 (w + 1) M = YLp n0 w M' := by
  unfold YLp
  rw [lpS, bX12_reads_43]
  unfold fX12_reads_70 fX12_reads_86
  exact eq_f i10 (eq_f h45 (eq_b h (eq_f i10 (eq_t h8 rfl))))
theorem ylgo0 {n0 w : Nat} {M M' : Mem} (h45 : ¬ gI M 45 = 0) (h : fX12_goesOn n0 M = some (0, M')) : YLp n0 (w + 2) M = some M' := by
  unfold YLp
  rw [lpS, bX12_reads_43]
  unfold fX12_reads_70 fX12_reads_85 fX12_reads_86
  exact eq_f i10 (eq_f h45 (eq_b h (eq_t rfl yl0)))
-- small steps
theorem YP.join {n0 b c0 dp m bs op least : Nat} {R : List Int32} {ly : List (Int32 × Int32)} {M : Mem} (hn : 1601 ≤ n0) (h : YP b c0 dp m bs op R ly M) (hR : ∀ o ∈ R, least ≤ rkI o) (hm : m = bs ∨ rkI (gA M 26 (m - 1)) < least) (hc : c0 + ly.length + R.length ≤ 1600) (hl : least ≤ 6) : ∃ M', fX12_joins n0 (nI least) M = some M' ∧ YP b c0 dp m bs op [] (ly ++ fl R) M' ∧ FrJ b (c0 + ly.length) M M' := by
  obtain ⟨h1, h2, h3, h4, h5, h6, h7, h8, h9, h10, h11, h12, h13⟩ := h
  obtain ⟨M', e, q1, q2, q3, q4, q5⟩ := yjoins (n0 := n0) (op0 := op) (least := least) hn h2 ⟨h4.1, by omega⟩ h6 R n0 M ly (by omega) h3 h5 h7 h8 hR hm (by omega) h1 h10 h11 hc h12 (by omega) hl
  refine ⟨M', e, ⟨(q5.1 34 (by decide) (by decide) (by decide)).trans h1, h2, (q5.1 41 (by decide) (by decide) (by decide)).trans h3, h4, ?_, h6, q1, trivial, by simp; omega, q3, q2, q4, by have : nots [] = 0 := rfl; omega⟩, q5⟩
  rw [q5.2.1 25 _ (by omega)]
  exact h5
/-- the memory behind a sign that is held back -/
def yPush (M : Mem) (k : Nat) (o : Int32) : Mem := sI (sA M 26 k o) 44 (nI (k + 1))
theorem YP.push {n0 b c0 dp m bs op : Nat} {o : Int32} {R : List Int32} {ly : List (Int32 × Int32)} {M : Mem} (h : YP b c0 dp m bs op R ly M) (ho : ¬ o = 43) (hr : m + R.length < 400) : fX12_holdsBack n0 o M = some (yPush M (m + R.length) o) ∧ YP b c0 dp m bs op (o :: R) ly (yPush M (m + R.length) o) := by
  obtain ⟨h1, h2, h3, h4, h5, h6, h7, h8, h9, h10, h11, h12, h13⟩ := h
  have hno : nots (o :: R) = nots R := by
    show (if o = 43 then 1 else 0) + nots R = _
    rw [if_neg ho, Nat.zero_add]
  constructor
  · unfold fX12_holdsBack yPush
    refine eq_f (by rw [h7]; exact nI_in (by omega) (by decide)) (eq_n ?_)
    simp only [gI_sA, h7, nI_clamp (show m + R.length < 2 ^ 31 by omega), nI_1]
  · unfold yPush
    refine ⟨?_, h2, ?_, h4, ?_, h6, ?_, (h8.push (op := o)).cong (fun i _ _ => rfl), by simp; omega, ?_, ?_, ?_, by rw [hno]; exact h13⟩
    · rw [gI_ne (by decide)]; exact h1
    · rw [gI_ne (by decide)]; exact h3
    · show gA (sA M 26 (m + R.length) o) 25 _ = _
      rw [gA_sA_ne (by decide)]; exact h5
    · rw [gI_at, List.length_cons]; congr 1
    · rw [gI_ne (by decide)]; exact h10
    · exact h11.cong (fun i _ => ⟨by show gA (sA M 26 (m + R.length) o) 16 _ = _; rw [gA_sA_ne (by decide)], by show gA (sA M 26 (m + R.length) o) 17 _ = _; rw [gA_sA_ne (by decide)]⟩)
    · rw [gI_ne (by decide), hno]; exact h12
theorem YP.add {n0 b c0 dp m bs op : Nat} {x y : Int32} {R : List Int32} {ly : List (Int32 × Int32)} {M : Mem} (h : YP b c0 dp m bs op R ly M) (hl : c0 + ly.length < 1600) : fX12_add n0 x y M = some (yAdd M b (c0 + ly.length) x y) ∧ YP b c0 dp m bs op R (ly ++ [(x, y)]) (yAdd M b (c0 + ly.length) x y) := by
  obtain ⟨h1, h2, h3, h4, h5, h6, h7, h8, h9, h10, h11, h12, h13⟩ := h
  obtain ⟨a1, a2, a3⟩ := h11.add (n0 := n0) (x := x) (y := y) h2 h1 h10 hl
  have ar : ∀ a, a ≠ 16 → a ≠ 17 → gA (yAdd M b (c0 + ly.length) x y) a = gA M a := fun a p q => by
    unfold yAdd
    show gA (sA (sA M 16 _ x) 17 _ y) a = _
    rw [gA_sA_ne q, gA_sA_ne p]
  have ik : ∀ k, k ≠ 33 → gI (yAdd M b (c0 + ly.length) x y) k = gI M k := fun k p => by
    unfold yAdd
    rw [gI_ne p]
    rfl
  refine ⟨a1, by rw [ik _ (by decide)]; exact h1, h2, by rw [ik _ (by decide)]; exact h3, h4, by rw [ar _ (by decide) (by decide)]; exact h5, h6, by rw [ik _ (by decide)]; exact h7, h8.cong (fun i _ _ => by rw [ar _ (by decide) (by decide)]), h9, a3, a2, by rw [ik _ (by decide)]; exact h12, h13⟩
theorem yAdd_FP {b c dp m : Nat} {x y : Int32} {M : Mem} (hc : c < 1600) : FP b c dp m M (yAdd M b c x y) := ((FP.r.a (by unfold pReg; omega)).a (by unfold pReg; omega)).i (by unfold pInt; omega)
theorem yPush_FP {b c dp m k : Nat} {o : Int32} {M : Mem} (hk : m ≤ k) : FP b c dp m M (yPush M k o) := (FP.r.a (by unfold pReg; omega)).i (by unfold pInt; omega)
/-- PR does not see the reader's own cells -/
theorem PR.yw {L s : Nat} {MX MY MY' : Mem} (h : PR L s MX MY) (h1 : ∀ k, k ≤ 12 → gI MY' k = gI MY k) (h2 : gL MY' 7 = gL MY 7) (h3 : gA MY' 1 = gA MY 1) : PR L s MX MY' := h.cong (fun _ _ _ => rfl) rfl rfl rfl h1 h2 h3
theorem PR.add {L s b c : Nat} {x y : Int32} {MX MY : Mem} (h : PR L s MX MY) : PR L s MX (yAdd MY b c x y) := h.yw (fun k hk => by unfold yAdd; rw [gI_ne (by omega)]; rfl) rfl (by unfold yAdd; show gA (sA (sA MY 16 _ x) 17 _ y) 1 = _; rw [gA_sA_ne (by decide), gA_sA_ne (by decide)])
theorem PR.push {L s k : Nat} {o : Int32} {MX MY : Mem} (h : PR L s MX MY) : PR L s MX (yPush MY k o) := h.yw (fun k hk => by unfold yPush; rw [gI_ne (by omega)]; rfl) rfl (by unfold yPush; show gA (sA MY 26 _ o) 1 = _; rw [gA_sA_ne (by decide)])
theorem PR.jn {L s b c : Nat} {MX MY MY' : Mem} (h : PR L s MX MY) (hj : FrJ b c MY MY') : PR L s MX MY' := h.yw (fun k hk => hj.1 k (by omega) (by omega) (by omega)) (by rw [hj.2.2.1]) (by funext i; exact hj.2.1 1 i (by omega))
theorem PR.ar {L s a i : Nat} {v : Int32} {MX MY : Mem} (h : PR L s MX MY) (ha : a ≠ 1) : PR L s MX (sA MY a i v) := h.yw (fun _ _ => rfl) rfl (gA_sA_ne (fun e => ha e.symm))
theorem PR.in_ {L s k : Nat} {v : Int32} {MX MY : Mem} (h : PR L s MX MY) (hk : 12 < k) : PR L s MX (sI MY k v) := h.yw (fun j hj => gI_ne (by omega)) rfl rfl
abbrev isT (x : Int32) : Prop := x = 1 ∨ x = 5 ∨ x = 6
theorem yisT {n0 : Nat} {x : Int32} {M : Mem} : fX12_isTest n0 x M = some (bI (isT x), M) := by
  unfold fX12_isTest
  by_cases h1 : x = 1
  · rw [bI_t (Or.inl h1)]; exact eq_t h1 rfl
  · by_cases h5 : x = 5
    · rw [bI_t (Or.inr (Or.inl h5))]; exact eq_f h1 (eq_t h5 rfl)
    · by_cases h6 : x = 6
      · rw [bI_t (Or.inr (Or.inr h6))]; exact eq_f h1 (eq_f h5 (eq_t h6 rfl))
      · rw [bI_f (by rintro (h | h | h) <;> contradiction)]; exact eq_f h1 (eq_f h5 (eq_f h6 rfl))
end
section
/-! SUMS AND TESTS: what operand() and goesOn() of the reference do at each token -/
abbrev ari (x : Int32) : Prop := x = 43 ∨ x = 45 ∨ x = 42 ∨ x = 47 ∨ x = 37
section REACH
variable {n0 L s dp : Nat} {MX MY : Mem}
theorem e41 (h41 : gI MY 41 = nI dp) (hdp : 1 ≤ dp) : gI MY 41 - 1 = nI (dp - 1) := by
  rw [h41]
  exact nI_subN (b := 1) hdp
theorem yop46 (h : PR L s MX MY) (hb : ¬ gI MX 386 = 258) (h41 : gI MY 41 = nI dp) (hdp : 1 ≤ dp ∧ dp ≤ 9) (hT : isT (gA MY 21 (dp - 1))) (hbg : ¬ gA MY 23 (dp - 1) = 0) : fX12_operand n0 MY = fX12_operand_46 n0 (nI (dp - 1)) 1 MY := by
  have e8 : gI MY 8 ≤ 0 := by rw [h.f8]; exact i00
  have hcl : (nI (dp - 1)).toNatClampNeg = dp - 1 := nI_clamp (by omega)
  have o : ¬ oob (nI (dp - 1)) 20 := nI_in (by omega) (by decide)
  unfold fX12_operand
  refine eq_b (ylexG h hb) (eq_t e8 (eq_n ?_))
  rw [e41 h41 hdp.1]
  simp only [hcl]
  exact eq_f o (eq_b yisT (eq_f (bz hT) (eq_f o (eq_f hbg rfl))))
theorem yop45 (h : PR L s MX MY) (hb : ¬ gI MX 386 = 258) (h41 : gI MY 41 = nI dp) (hdp : 1 ≤ dp ∧ dp ≤ 9) (hT : ¬ isT (gA MY 21 (dp - 1)) ∨ gA MY 23 (dp - 1) = 0) : fX12_operand n0 MY = fX12_operand_46 n0 (nI (dp - 1)) 0 MY := by
  have e8 : gI MY 8 ≤ 0 := by rw [h.f8]; exact i00
  have hcl : (nI (dp - 1)).toNatClampNeg = dp - 1 := nI_clamp (by omega)
  have o : ¬ oob (nI (dp - 1)) 20 := nI_in (by omega) (by decide)
  unfold fX12_operand fX12_operand_45
  refine eq_b (ylexG h hb) (eq_t e8 (eq_n ?_))
  rw [e41 h41 hdp.1]
  simp only [hcl]
  refine eq_f o (eq_b yisT ?_)
  by_cases g : isT (gA MY 21 (dp - 1))
  · rcases hT with q | q
    · exact absurd g q
    · exact eq_f (bz g) (eq_f o (eq_t q rfl))
  · exact eq_t (bI_f g) rfl
theorem yop110 {u : Int32} (h : PR L s MX MY) (hb : ¬ gI MX 386 = 258) (hdp : 1 ≤ dp ∧ dp ≤ 9) (hu : u = 0 ∨ (¬ gI MX 386 = 91 ∧ ¬ gI MX 386 = 282)) : fX12_operand_110 n0 (nI (dp - 1)) u MY = fX12_operand_171 n0 (sA MY 23 (dp - 1) 0) := by
  have hcl : (nI (dp - 1)).toNatClampNeg = dp - 1 := nI_clamp (by omega)
  have o : ¬ oob (nI (dp - 1)) 20 := nI_in (by omega) (by decide)
  have h1 : PR L s MX (sA MY 23 (dp - 1) 0) := h.ar (by decide)
  unfold fX12_operand_110 fX12_operand_137
  simp only [hcl]
  refine eq_f o (eq_n ?_)
  by_cases g : u = 0
  · exact eq_t g (eq_t g rfl)
  · rcases hu with q | q
    · exact absurd q g
    · exact eq_f g (eq_b (ySign (by decide) h1) (eq_t (bI_f q.1) (eq_f g (eq_b (yWord (i := 22) (kk := 282) (by decide) (by decide) (by decide) h1 hb) (eq_t (bI_f q.2) rfl)))))
theorem yop171 (h : PR L s MX MY) (hb : ¬ gI MX 386 = 258) (h41 : gI MY 41 = nI dp) (hdp : 1 ≤ dp ∧ dp ≤ 9) (hF : ¬ isT (gA MY 21 (dp - 1)) ∨ gA MY 23 (dp - 1) = 0 ∨ (¬ gI MX 386 = 281 ∧ ¬ gI MX 386 = 91 ∧ ¬ gI MX 386 = 282)) : fX12_operand n0 MY = fX12_operand_171 n0 (sA MY 23 (dp - 1) 0) := by
  by_cases g : ¬ isT (gA MY 21 (dp - 1)) ∨ gA MY 23 (dp - 1) = 0
  · rw [yop45 h hb h41 hdp g]
    unfold fX12_operand_46
    exact eq_t rfl (yop110 h hb hdp (Or.inl rfl))
  · have g1 : isT (gA MY 21 (dp - 1)) := Decidable.byContradiction (fun q => g (Or.inl q))
    have g2 : ¬ gA MY 23 (dp - 1) = 0 := fun q => g (Or.inr q)
    have g3 : ¬ gI MX 386 = 281 ∧ ¬ gI MX 386 = 91 ∧ ¬ gI MX 386 = 282 := by
      rcases hF with q | q | q
      · exact absurd g1 q
      · exact absurd q g2
      · exact q
    rw [yop46 h hb h41 hdp g1 g2]
    unfold fX12_operand_46
    exact eq_f i10 (eq_b (yWord (i := 21) (kk := 281) (by decide) (by decide) (by decide) h hb) (eq_t (bI_f g3.1) (yop110 h hb hdp (Or.inr g3.2))))
theorem yopBr (h : PR L s MX MY) (hk : gI MX 386 = 91) (h41 : gI MY 41 = nI dp) (hdp : 1 ≤ dp ∧ dp ≤ 9) (hT : isT (gA MY 21 (dp - 1))) (hbg : ¬ gA MY 23 (dp - 1) = 0) : fX12_operand n0 MY = (fX12_opens n0 5 (sA MY 23 (dp - 1) 0)).bind fun z => some (0, z) := by
  have hb : ¬ gI MX 386 = 258 := by rw [hk]; decide
  have hcl : (nI (dp - 1)).toNatClampNeg = dp - 1 := nI_clamp (by omega)
  have o : ¬ oob (nI (dp - 1)) 20 := nI_in (by omega) (by decide)
  rw [yop46 h hb h41 hdp hT hbg]
  unfold fX12_operand_46 fX12_operand_110
  simp only [hcl]
  exact eq_f i10 (eq_b (yWord (i := 21) (kk := 281) (by decide) (by decide) (by decide) h hb) (eq_t (bI_f (by rw [hk]; decide)) (eq_f o (eq_n (eq_f i10 (eq_b (ySign (by decide) (h.ar (by decide))) (eq_f (bz hk) rfl)))))))
theorem yopAll (h : PR L s MX MY) (hk : gI MX 386 = 282) (h41 : gI MY 41 = nI dp) (hdp : 1 ≤ dp ∧ dp ≤ 9) (hT : isT (gA MY 21 (dp - 1))) (hbg : ¬ gA MY 23 (dp - 1) = 0) : fX12_operand n0 MY = (fX12_add n0 30 0 (sA MY 23 (dp - 1) 0)).bind fun z => (fX12_ahead n0 (sA z 22 (dp - 1) 2)).bind fun z2 => some (1, z2) := by
  have hb : ¬ gI MX 386 = 258 := by rw [hk]; decide
  have hcl : (nI (dp - 1)).toNatClampNeg = dp - 1 := nI_clamp (by omega)
  have o : ¬ oob (nI (dp - 1)) 20 := nI_in (by omega) (by decide)
  have h1 : PR L s MX (sA MY 23 (dp - 1) 0) := h.ar (by decide)
  rw [yop46 h hb h41 hdp hT hbg]
  unfold fX12_operand_46 fX12_operand_110 fX12_operand_137
  simp only [hcl]
  refine eq_f i10 (eq_b (yWord (i := 21) (kk := 281) (by decide) (by decide) (by decide) h hb) (eq_t (bI_f (by rw [hk]; decide)) (eq_f o (eq_n (eq_f i10 (eq_b (ySign (by decide) h1) (eq_t (bI_f (by rw [hk]; decide)) (eq_f i10 (eq_b (yWord (i := 22) (kk := 282) (by decide) (by decide) (by decide) h1 hb) (eq_f (bz hk) ?_))))))))))
  show ((fX12_add n0 30 0 (sA MY 23 (dp - 1) 0)).bind fun z155 => if oob (nI (dp - 1)) 20 then none else bnd (sA z155 22 (dp - 1) 2) fun M164 => (fX12_ahead n0 M164).bind fun z166 => some (1, z166)) = _
  congr 1
  funext z
  exact eq_f o rfl
theorem yopNot (h : PR L s MX MY) (hk : gI MX 386 = 281) (h41 : gI MY 41 = nI dp) (hdp : 1 ≤ dp ∧ dp ≤ 9) (hT : isT (gA MY 21 (dp - 1))) (hbg : ¬ gA MY 23 (dp - 1) = 0) : (gI MY 42 = 7 → fX12_operand n0 MY = some (1, sI (sI MY 8 5) 9 (nI s))) ∧ (¬ gI MY 42 = 7 → fX12_operand n0 MY = (fX12_holdsBack n0 43 (sI MY 42 (gI MY 42 + 1))).bind fun z => (fX12_ahead n0 z).bind fun z2 => some (0, z2)) := by
  have hb : ¬ gI MX 386 = 258 := by rw [hk]; decide
  have e8 : gI MY 8 ≤ 0 := by rw [h.f8]; exact i00
  rw [yop46 h hb h41 hdp hT hbg]
  unfold fX12_operand_46 fX12_operand_79
  constructor
  · intro h7
    refine eq_f i10 (eq_b (yWord (i := 21) (kk := 281) (by decide) (by decide) (by decide) h hb) (eq_f (bz hk) (eq_t h7 (eq_b (yblame0 h.f8) ?_))))
    rw [show gI (bI (gI MX 386 = 281), MY).2 4 = nI s from h.at_]
    exact eq_f (n8f (k := 5) (by decide) (by decide)) rfl
  · intro h7
    exact eq_f i10 (eq_b (yWord (i := 21) (kk := 281) (by decide) (by decide) (by decide) h hb) (eq_f (bz hk) (eq_f h7 (eq_t e8 rfl))))
-- operand_171
theorem y171o (h : PR L s MX MY) (hk : gI MX 386 = 40) : fX12_operand_171 n0 MY = (fX12_opens n0 2 MY).bind fun z => some (0, z) := by
  unfold fX12_operand_171
  exact eq_b (ySign (by decide) h) (eq_f (bz hk) rfl)
theorem y171w (h : PR L s MX MY) (hk : gI MX 386 = 283 ∨ gI MX 386 = 284 ∨ gI MX 386 = 278) : fX12_operand_171 n0 MY = fX12_operand_249 n0 (if gI MX 386 = 283 then 36 else if gI MX 386 = 284 then 37 else 44) MY := by
  have hb : ¬ gI MX 386 = 258 := by rcases hk with e | e | e <;> rw [e] <;> decide
  have h40 : ¬ gI MX 386 = 40 := by rcases hk with e | e | e <;> rw [e] <;> decide
  have w1 : fX12_isWord n0 7170414 MY = some (bI (gI MX 386 = 283), MY) := yWord (i := 23) (by decide) (by decide) (by decide) h hb
  have w2 : fX12_isWord n0 7168376 MY = some (bI (gI MX 386 = 284), MY) := yWord (i := 24) (by decide) (by decide) (by decide) h hb
  have w3 : fX12_isWord n0 26982 MY = some (bI (gI MX 386 = 278), MY) := yWord (i := 18) (by decide) (by decide) (by decide) h hb
  unfold fX12_operand_171 fX12_operand_217
  refine eq_b (ySign (by decide) h) (eq_t (bI_f h40) ?_)
  by_cases e1 : gI MX 386 = 283
  · rw [if_pos e1]
    exact eq_b w1 (eq_f (bz e1) (eq_b w1 (eq_f (bz e1) rfl)))
  · rw [if_neg e1]
    by_cases e2 : gI MX 386 = 284
    · rw [if_pos e2]
      exact eq_b w1 (eq_t (bI_f e1) (eq_b w2 (eq_f (bz e2) (eq_b w1 (eq_t (bI_f e1) (eq_b w2 (eq_f (bz e2) rfl)))))))
    · rw [if_neg e2]
      have e3 : gI MX 386 = 278 := by
        rcases hk with q | q | q
        · exact absurd q e1
        · exact absurd q e2
        · exact q
      exact eq_b w1 (eq_t (bI_f e1) (eq_b w2 (eq_t (bI_f e2) (eq_b w3 (eq_f (bz e3) (eq_b w1 (eq_t (bI_f e1) (eq_b w2 (eq_t (bI_f e2) rfl)))))))))
/-- the reference's sort of a token that stands for a value -/
def sortOf (k : Int32) : Int32 := if k = 256 then 0 else if k = 261 then 1 else if k = 275 then 2 else if k = 263 then 3 else if k = 276 then 4 else if k = 277 then 5 else if k = 262 then 6 else -1
theorem y171l (h : PR L s MX MY) (hb : ¬ gI MX 386 = 258) (h1 : ¬ gI MX 386 = 40) (h2 : ¬ gI MX 386 = 283) (h3 : ¬ gI MX 386 = 284) (h4 : ¬ gI MX 386 = 278) : fX12_operand_171 n0 MY = fX12_operand_411 n0 (sortOf (gI MX 386)) MY := by
  have w1 : fX12_isWord n0 7170414 MY = some (bI (gI MX 386 = 283), MY) := yWord (i := 23) (by decide) (by decide) (by decide) h hb
  have w2 : fX12_isWord n0 7168376 MY = some (bI (gI MX 386 = 284), MY) := yWord (i := 24) (by decide) (by decide) (by decide) h hb
  have w3 : fX12_isWord n0 26982 MY = some (bI (gI MX 386 = 278), MY) := yWord (i := 18) (by decide) (by decide) (by decide) h hb
  have v1 : fX12_isWord n0 512802514792 MY = some (bI (gI MX 386 = 261), MY) := yWord (i := 1) (by decide) (by decide) (by decide) h hb
  have v2 : fX12_isWord n0 1751477348 MY = some (bI (gI MX 386 = 275), MY) := yWord (i := 15) (by decide) (by decide) (by decide) h hb
  have v3 : fX12_isWord n0 109330312357234 MY = some (bI (gI MX 386 = 263), MY) := yWord (i := 3) (by decide) (by decide) (by decide) h hb
  have v4 : fX12_isWord n0 120299592184933 MY = some (bI (gI MX 386 = 276), MY) := yWord (i := 16) (by decide) (by decide) (by decide) h hb
  have v5 : fX12_isWord n0 435627783289 MY = some (bI (gI MX 386 = 277), MY) := yWord (i := 17) (by decide) (by decide) (by decide) h hb
  have v6 : fX12_isWord n0 465491424371 MY = some (bI (gI MX 386 = 262), MY) := yWord (i := 2) (by decide) (by decide) (by decide) h hb
  have hs := h.2.1.2.2.2.2.sg2 hb
  unfold fX12_operand_171 sortOf
  refine eq_b (ySign (by decide) h) (eq_t (bI_f h1) (eq_b w1 (eq_t (bI_f h2) (eq_b w2 (eq_t (bI_f h3) (eq_b w3 (eq_t (bI_f h4) ?_)))))))
  by_cases g0 : gI MX 386 = 256
  · rw [if_pos g0]
    exact eq_t (hs.1.mpr g0) rfl
  rw [if_neg g0]
  refine eq_f (fun q => g0 (hs.1.mp q)) ?_
  by_cases g1 : gI MX 386 = 261
  · rw [if_pos g1]
    exact eq_b v1 (eq_f (bz g1) rfl)
  rw [if_neg g1]
  refine eq_b v1 (eq_t (bI_f g1) ?_)
  by_cases g2 : gI MX 386 = 275
  · rw [if_pos g2]
    exact eq_b v2 (eq_f (bz g2) rfl)
  rw [if_neg g2]
  refine eq_b v2 (eq_t (bI_f g2) ?_)
  by_cases g3 : gI MX 386 = 263
  · rw [if_pos g3]
    exact eq_b v3 (eq_f (bz g3) rfl)
  rw [if_neg g3]
  refine eq_b v3 (eq_t (bI_f g3) ?_)
  by_cases g4 : gI MX 386 = 276
  · rw [if_pos g4]
    exact eq_b v4 (eq_f (bz g4) rfl)
  rw [if_neg g4]
  refine eq_b v4 (eq_t (bI_f g4) ?_)
  by_cases g5 : gI MX 386 = 277
  · rw [if_pos g5]
    exact eq_b v5 (eq_f (bz g5) rfl)
  rw [if_neg g5]
  refine eq_b v5 (eq_t (bI_f g5) ?_)
  by_cases g6 : gI MX 386 = 262
  · rw [if_pos g6]
    exact eq_b v6 (eq_f (bz g6) rfl)
  rw [if_neg g6]
  exact eq_b v6 (eq_t (bI_f g6) rfl)
theorem y437F (h : PR L s MX MY) : fX12_operand_437 n0 (-1) MY = some (1, sI (sI MY 8 1) 9 (nI s)) := by
  unfold fX12_operand_437 fX12_operand_451
  rw [h.at_]
  exact eq_t rfl (eq_b (yblame0 h.f8) (eq_f (n8f (k := 1) (by decide) (by decide)) rfl))
theorem y437 {x : Int32} (h : PR L s MX MY) (hx : ¬ x = -1) : fX12_operand_437 n0 x MY = (fX12_add n0 x (gI MY 6) MY).bind fun z => (fX12_ahead n0 z).bind fun z2 => some (1, z2) := by
  have e8 : gI MY 8 ≤ 0 := by rw [h.f8]; exact i00
  unfold fX12_operand_437 fX12_operand_451
  exact eq_f hx (eq_t e8 rfl)
-- goesOn
theorem ygoA (h : PR L s MX MY) (hk : ari (gI MX 386)) (h41 : gI MY 41 = nI dp) (hdp : 1 ≤ dp ∧ dp ≤ 9) (hph : ¬ (2 : Int32) ≤ gA MY 22 (dp - 1)) : fX12_goesOn n0 MY = fX12_goesOn_112 n0 (if gI MX 386 = 43 ∨ gI MX 386 = 45 then 5 else 6) MY := by
  have hb : ¬ gI MX 386 = 258 := by rcases hk with e | e | e | e | e <;> rw [e] <;> decide
  have e8 : gI MY 8 ≤ 0 := by rw [h.f8]; exact i00
  have hcl : (nI (dp - 1)).toNatClampNeg = dp - 1 := nI_clamp (by omega)
  have o : ¬ oob (nI (dp - 1)) 20 := nI_in (by omega) (by decide)
  have tail : fX12_goesOn_87 n0 MY = fX12_goesOn_112 n0 (if gI MX 386 = 43 ∨ gI MX 386 = 45 then 5 else 6) MY := by
    unfold fX12_goesOn_87 fX12_goesOn_106
    refine eq_b (ySign (by decide) h) ?_
    by_cases g1 : gI MX 386 = 43
    · rw [if_pos (Or.inl g1)]
      exact eq_f (bz g1) rfl
    · refine eq_t (bI_f g1) (eq_b (ySign (by decide) h) ?_)
      by_cases g2 : gI MX 386 = 45
      · rw [if_pos (Or.inr g2)]
        exact eq_f (bz g2) rfl
      · have hno : ¬ (gI MX 386 = 43 ∨ gI MX 386 = 45) := by rintro (q | q) <;> contradiction
        rw [if_neg hno]
        exact eq_t (bI_f g2) rfl
  unfold fX12_goesOn
  refine eq_b (ylexG h hb) (eq_t e8 (eq_n ?_))
  rw [e41 h41 hdp.1]
  simp only [hcl]
  refine eq_f o (eq_n (eq_b yisT (eq_f o (eq_f hph (eq_b (ySign (by decide) h) ?_)))))
  by_cases g1 : gI MX 386 = 43
  · exact eq_f (bz g1) tail
  refine eq_t (bI_f g1) (eq_b (ySign (by decide) h) ?_)
  by_cases g2 : gI MX 386 = 45
  · exact eq_f (bz g2) tail
  refine eq_t (bI_f g2) (eq_b (ySign (by decide) h) ?_)
  by_cases g3 : gI MX 386 = 42
  · exact eq_f (bz g3) tail
  refine eq_t (bI_f g3) (eq_b (ySign (by decide) h) ?_)
  by_cases g4 : gI MX 386 = 47
  · exact eq_f (bz g4) tail
  refine eq_t (bI_f g4) (eq_b (ySign (by decide) h) ?_)
  have g5 : gI MX 386 = 37 := by
    rcases hk with q | q | q | q | q
    · exact absurd q g1
    · exact absurd q g2
    · exact absurd q g3
    · exact absurd q g4
    · exact q
  exact eq_f (bz g5) tail
theorem ygo188 (h : PR L s MX MY) (hb : ¬ gI MX 386 = 258) (hk : ¬ ari (gI MX 386) ∨ (2 : Int32) ≤ gA MY 22 (dp - 1)) (h41 : gI MY 41 = nI dp) (hdp : 1 ≤ dp ∧ dp ≤ 9) : fX12_goesOn n0 MY = fX12_goesOn_188 n0 (nI (dp - 1)) (gA MY 21 (dp - 1)) (bI (isT (gA MY 21 (dp - 1)))) MY := by
  have e8 : gI MY 8 ≤ 0 := by rw [h.f8]; exact i00
  have hcl : (nI (dp - 1)).toNatClampNeg = dp - 1 := nI_clamp (by omega)
  have o : ¬ oob (nI (dp - 1)) 20 := nI_in (by omega) (by decide)
  unfold fX12_goesOn
  refine eq_b (ylexG h hb) (eq_t e8 (eq_n ?_))
  rw [e41 h41 hdp.1]
  simp only [hcl]
  refine eq_f o (eq_n (eq_b yisT (eq_f o ?_)))
  by_cases hph : (2 : Int32) ≤ gA MY 22 (dp - 1)
  · exact eq_t hph rfl
  · have na : ¬ ari (gI MX 386) := by
      rcases hk with q | q
      · exact q
      · exact absurd q hph
    refine eq_f hph (eq_b (ySign (by decide) h) (eq_t (bI_f (fun q => na (Or.inl q))) (eq_b (ySign (by decide) h) (eq_t (bI_f (fun q => na (Or.inr (Or.inl q)))) (eq_b (ySign (by decide) h) (eq_t (bI_f (fun q => na (Or.inr (Or.inr (Or.inl q))))) (eq_b (ySign (by decide) h) (eq_t (bI_f (fun q => na (Or.inr (Or.inr (Or.inr (Or.inl q)))))) (eq_b (ySign (by decide) h) (eq_t (bI_f (fun q => na (Or.inr (Or.inr (Or.inr (Or.inr q)))))) rfl))))))))))
theorem ygoB (h : PR L s MX MY) (hb : gI MX 386 = 258) : fX12_goesOn n0 MY = some (0, sI (sI MY 8 1) 9 (gI MX 388)) := by
  unfold fX12_goesOn
  exact eq_b (ylexB h hb) (eq_f (n8f (k := 1) (by decide) (by decide)) rfl)
theorem yopB (h : PR L s MX MY) (hb : gI MX 386 = 258) : fX12_operand n0 MY = some (1, sI (sI MY 8 1) 9 (gI MX 388)) := by
  unfold fX12_operand
  exact eq_b (ylexB h hb) (eq_f (n8f (k := 1) (by decide) (by decide)) rfl)
end REACH
end
section
/-! SUMS AND TESTS: both readers side by side -/
def En (L s qf b c0 dp m bs op pw : Nat) (lx : List Int32) (ly : List (Int32 × Int32)) (MX MY : Mem) : Prop :=
  PR L s MX MY ∧ gR MX 257 = qf ∧ (qf = 43 ∨ qf = 45 ∨ qf = 59 ∨ qf = 61) ∧ xlist MX qf lx ∧ YP b c0 dp m bs op [] ly MY ∧ (gI MX 258 = gI MY 35 ∧ (gI MX 258 = 0 ∨ gI MX 258 = 1)) ∧ dp ≤ op + 1 ∧ m ≤ pw ∧ c0 + lx.length + pw ≤ s ∧ ly.length ≤ lx.length ∧ gI MY 45 = 0
/-- behind a phrase, from the entry (MX, MY) on -/
def St (n0 L s qf b c0 dp m bs op pw : Nat) (lx : List Int32) (ly : List (Int32 × Int32)) (MX MY : Mem) (rl r D : Nat) (t : Bool) (MX' MY' : Mem) (s' k : Nat) (δ : List (Int32 × Int32)) (R : List Int32) (ly' : List (Int32 × Int32)) : Prop :=
  (∀ w, YLp n0 (w + k) MY = YLp n0 w MY') ∧ s + k ≤ s' ∧ s < s' ∧ PR L s' MX' MY' ∧ xlist MX' qf (lx ++ exL δ) ∧ YP b c0 dp m bs op R ly' MY' ∧ ly' ++ fl R = ly ++ δ ∧ (∀ o ∈ R, r ≤ rkI o) ∧ R.length ≤ rl ∧ c0 + (lx ++ exL δ).length + pw ≤ s' ∧ gI MY' 45 = 1 ∧ (∀ st, st.length + D ≤ 60 → tyL δ st = some (t :: st)) ∧ 0 < δ.length ∧ FPx qf MX MX' ∧ FP b (c0 + ly.length) dp m MY MY' ∧ ly.length ≤ ly'.length
def Ok (n0 L s qf b c0 dp m bs op pw : Nat) (lx : List Int32) (ly : List (Int32 × Int32)) (MX MY : Mem) (rl r D : Nat) (t : Bool) (Q : Mem → Mem → Prop) (rx : Option (Int32 × Mem)) : Prop :=
  ∃ MX' MY' s' k δ R ly', rx = some (1, MX') ∧ St n0 L s qf b c0 dp m bs op pw lx ly MX MY rl r D t MX' MY' s' k δ R ly' ∧ Q MX' MY'
def Bad (n0 s qf b c0 dp m : Nat) (ly : List (Int32 × Int32)) (MX MY : Mem) (rx : Option (Int32 × Mem)) : Prop :=
  ∃ MX' MY' k, rx = some (0, MX') ∧ (∀ w, YLp n0 (w + k) MY = some MY') ∧ s + k ≤ 1602 ∧ Flt MX' MY' ∧ FPx qf MX MX' ∧ FP b (c0 + ly.length) dp m MY MY'
theorem exL_app {a b : List (Int32 × Int32)} : exL (a ++ b) = exL a ++ exL b := by unfold exL; exact List.flatMap_append
theorem exL_one {c : Int32 × Int32} : exL [c] = ex1 c := by unfold exL; simp
theorem ex1_len {c : Int32 × Int32} : 1 ≤ (ex1 c).length := by
  unfold ex1
  repeat' split
  all_goals simp
theorem exL_len {δ : List (Int32 × Int32)} : δ.length ≤ (exL δ).length := by
  induction δ with
  | nil => simp
  | cons c δ ih =>
    rw [show c :: δ = [c] ++ δ from rfl, exL_app, exL_one, List.length_append, List.length_append]
    have := ex1_len (c := c)
    simp
    omega
theorem tyL_app : ∀ {a b : List (Int32 × Int32)} {st : List Bool}, tyL (a ++ b) st = (tyL a st).bind (tyL b)
  | [], _, _ => rfl
  | c :: a, b, st => by
    show (ty1 c st).bind (tyL (a ++ b)) = ((ty1 c st).bind (tyL a)).bind (tyL b)
    cases ty1 c st with
    | none => rfl
    | some st' => exact tyL_app
theorem tyL_one {c : Int32 × Int32} {st : List Bool} : tyL [c] st = ty1 c st := by
  show (ty1 c st).bind (tyL []) = _
  cases ty1 c st with
  | none => rfl
  | some st' => rfl
/-- what the class adds to its formula -/
def xAd (qf n : Nat) (x : Int32) (M : Mem) : Mem := sI (sA M (qf + 1) n x) (128 * qf + 1) (nI (n + 1))
theorem xAd_FP {qf n : Nat} {x : Int32} {M : Mem} : FPx qf M (xAd qf n x M) := ⟨fun k q => by unfold xAd; rw [gI_ne (by omega)]; rfl, fun a q => by unfold xAd; show gA (sA M (qf + 1) n x) a = _; rw [gA_sA_ne q], rfl⟩
theorem PR.xad {L s qf n : Nat} {x : Int32} {MX MY : Mem} (h : PR L s MX MY) (hq : qf = 43 ∨ qf = 45 ∨ qf = 59 ∨ qf = 61) : PR L s (xAd qf n x MX) MY := by
  refine h.cong (fun j h1 h2 => ?_) ?_ ?_ ?_ (fun _ _ => rfl) rfl rfl
  · unfold xAd; rw [gI_ne (by omega)]; rfl
  · unfold xAd; rw [gI_ne (by omega)]; rfl
  · unfold xAd; show gA (sA MX (qf + 1) n x) 4 = _; rw [gA_sA_ne (by omega)]
  · unfold xAd; show gA (sA MX (qf + 1) n x) 6 = _; rw [gA_sA_ne (by omega)]
theorem xlist.ad {n0 qf : Nat} {x : Int32} {l : List Int32} {M : Mem} (h : xlist M qf l) (hl : l.length < 1600) : fX0_add n0 qf x M = some (xAd qf l.length x M) ∧ xlist (xAd qf l.length x M) qf (l ++ [x]) := h.add hl
theorem xlist.fi {qf : Nat} {l : List Int32} {M M' : Mem} (h : xlist M qf l) (hf : FI 386 392 M M') (hq : qf = 43 ∨ qf = 45 ∨ qf = 59 ∨ qf = 61) : xlist M' qf l := h.cong (hf.2 _ (by omega)) (by rw [hf.A])
theorem xAA {n0 L s qf : Nat} {x : Int32} {lx : List Int32} {MX MX' : Mem} (hx : xlist MX qf lx) (h257 : gR MX 257 = qf) (hl : lx.length < 1600) (ha : fX8_advance n0 (xAd qf lx.length x MX) = some MX') : fX3_addAndAdvance n0 x MX = some (1, MX') := by
  unfold fX3_addAndAdvance
  rw [h257]
  exact eq_b (hx.ad hl).1 (eq_b ha rfl)
theorem En.sL {L s qf b c0 dp m bs op pw : Nat} {lx : List Int32} {ly : List (Int32 × Int32)} {MX MY : Mem} (h : En L s qf b c0 dp m bs op pw lx ly MX MY) : s ≤ 1600 := by
  have := h.1.2.1.2.2.1
  have := h.1.L16
  omega
/-- a fault that both tell at once -/
theorem badOp {n0 L s qf b c0 dp m bs op pw k : Nat} {p r : Int32} {lx : List Int32} {ly : List (Int32 × Int32)} {MX MY M1 : Mem} {rx : Option (Int32 × Mem)} (h : En L s qf b c0 dp m bs op pw lx ly MX MY) (h1 : 1 ≤ k) (h6 : k ≤ 6) (hr : r = 0 ∨ r = 1) (hx : rx = some (0, sI (sI MX 391 (nI k)) 392 p)) (hf : FP b (c0 + ly.length) dp m MY M1) (hy : fX12_operand n0 MY = some (r, sI (sI M1 8 (nI k)) 9 p)) : Bad n0 s qf b c0 dp m ly MX MY rx := by
  have n8 : ¬ gI (sI (sI M1 8 (nI k)) 9 p) 8 = 0 := pos_ne (n8f h1 h6)
  have := h.sL
  refine ⟨_, sI (sI (sI M1 8 (nI k)) 9 p) 45 r, 2, hx, fun w => ylopF h.2.2.2.2.2.2.2.2.2.2 hr hy n8, by omega, ?_, FIf.p, ((hf.i (by unfold pInt; omega)).i (by unfold pInt; omega)).i (by unfold pInt; omega)⟩
  exact (Flt.mk (MX := MX) (MY := M1) (p := p) h1 h6).cong rfl rfl (gI_ne (by decide)) (gI_ne (by decide))
/-- a value -/
theorem leafP {n0 L s qf b c0 dp m bs op pw D rl r : Nat} {so v x : Int32} {t : Bool} {lx : List Int32} {ly : List (Int32 × Int32)} {MX MY M1 : Mem} {rx : Option (Int32 × Mem)} {Q : Mem → Mem → Prop} (f : Mem → Mem) (hn : 1601 ≤ n0) (h : En L s qf b c0 dp m bs op pw lx ly MX MY) (hs : s < L) (h1 : PR L s MX M1) (h2 : YP b c0 dp m bs op [] ly M1) (h3 : FP b (c0 + ly.length) dp m MY M1)
    (hf1 : PR L s (xAd qf lx.length x MX) (f (yAdd M1 b (c0 + ly.length) so v))) (hf2 : YP b c0 dp m bs op [] (ly ++ [(so, v)]) (f (yAdd M1 b (c0 + ly.length) so v))) (hf3 : FP b (c0 + ly.length) dp m (yAdd M1 b (c0 + ly.length) so v) (f (yAdd M1 b (c0 + ly.length) so v)))
    (hy : fX12_operand n0 MY = (fX12_add n0 so v M1).bind fun z => (fX12_ahead n0 (f z)).bind fun z2 => some (1, z2)) (hx : ∀ MX', fX3_addAndAdvance n0 x MX = some (1, MX') → rx = some (1, MX')) (hex : ex1 (so, v) = [x]) (hty : ∀ st : List Bool, st.length < 60 → ty1 (so, v) st = some (t :: st)) (hD : 1 ≤ D) (hQ : ∀ MX' MY', FrY (f (yAdd M1 b (c0 + ly.length) so v)) MY' → Q MX' (sI MY' 45 1)) :
    Ok n0 L s qf b c0 dp m bs op pw lx ly MX MY rl r D t Q rx := by
  obtain ⟨hP, h257, hq, hxl, hYP, h258, hdo, hmp, hcs, hll, h45⟩ := h
  have hL16 := hP.L16
  have hlx : lx.length < 1600 := by omega
  obtain ⟨ea, ya⟩ := h2.add (n0 := n0) (x := so) (y := v) (by omega)
  obtain ⟨MX', MY', s', ax, ay, hs', hP', fx, fy⟩ := hf1.adv hn hs
  have fY := fy.Y
  have h8 : gI MY' 8 = 0 := hP'.f8
  refine ⟨MX', sI MY' 45 1, s', 1, [(so, v)], [], ly ++ [(so, v)], hx _ (xAA (L := L) (s := s) hxl h257 hlx ax), ⟨fun w => ylop h45 (Or.inr rfl) (hy.trans (eq_b ea (eq_b ay rfl))) h8, by omega, hs', hP'.in_ (by decide), ?_, ?_, by simp [fl], fun o ho => by simp at ho, by simp, ?_, gI_at, fun st hst => by rw [tyL_one]; exact hty st (by omega), by simp, ?_, ?_, by simp⟩, hQ _ _ fY⟩
  · rw [exL_one, hex]
    exact ((hxl.ad (n0 := n0) (x := x) hlx).2).fi (fx.wk (by decide) (by decide)) hq
  · exact (hf2.tok fY).cong (fun k hk => gI_ne (by omega)) (fun a _ => rfl)
  · rw [exL_one, hex]
    simp
    omega
  · exact xAd_FP.tr (fx.wk (a' := 386) (b' := 392) (by decide) (by decide)).p
  · exact (((h3.tr (yAdd_FP (by omega))).tr hf3).tr fY.p).i (by unfold pInt; omega)
/-- a sign is held back: from behind a phrase to the entry of the next one -/
def Nx (n0 L qf b c0 dp m bs op pw : Nat) (lx : List Int32) (ly : List (Int32 × Int32)) (MXc MYc : Mem) (sc cl : Nat) (opc : Int32) (MX1 MY1 : Mem) (s1 : Nat) : Prop :=
  fX8_advance n0 MXc = some MX1 ∧ (∀ w, YLp n0 (w + 1) MYc = YLp n0 w MY1) ∧ sc < s1 ∧ En L s1 qf b c0 dp (m + 1) bs op (pw + 1) lx ly MX1 MY1 ∧ gA MY1 26 m = opc ∧ FP b cl dp m MYc MY1 ∧ FI 386 392 MXc MX1
theorem comb {n0 L s qf b c0 dp m bs op pw rl r D rl2 r2 D2 : Nat} {ta tb tc : Bool} {opc x : Int32} {lx : List Int32} {ly : List (Int32 × Int32)} {MX MY MXc MYc MX1 MY1 MX2 MY2 : Mem} {sc k s1 s2 k2 rlc : Nat} {δ δ2 ly2 : List (Int32 × Int32)} {R R2 : List Int32} {lyc : List (Int32 × Int32)} (hn : 1601 ≤ n0) (h : En L s qf b c0 dp m bs op pw lx ly MX MY) (hS : St n0 L s qf b c0 dp m bs op pw lx ly MX MY rl r D ta MXc MYc sc k δ R lyc) (hN : Nx n0 L qf b c0 dp m bs op pw (lx ++ exL δ) (ly ++ δ) MXc MYc sc (c0 + ly.length) opc MX1 MY1 s1) (hS2 : St n0 L s1 qf b c0 dp (m + 1) bs op (pw + 1) (lx ++ exL δ) (ly ++ δ) MX1 MY1 rl2 r2 D2 tb MX2 MY2 s2 k2 δ2 R2 ly2) (ho : ¬ opc = 43) (hex : ex1 (opc, 0) = [x]) (hr : r ≤ rkI opc ∧ r ≤ r2) (hl : rl2 + 1 ≤ rlc) (hty : ∀ st : List Bool, ty1 (opc, 0) (tb :: ta :: st) = some (tc :: st)) (hD : D2 + 1 ≤ D) :
    fX0_add n0 (gR MX2 257) x MX2 = some (xAd qf (lx ++ exL δ ++ exL δ2).length x MX2) ∧ St n0 L s qf b c0 dp m bs op pw lx ly MX MY rlc r D tc (xAd qf (lx ++ exL δ ++ exL δ2).length x MX2) MY2 s2 (k2 + 1 + k) (δ ++ δ2 ++ [(opc, 0)]) (R2 ++ [opc]) ly2 := by
  obtain ⟨hP, h257, hq, hxl, hYP, h258, hdo, hmp, hcs, hll, h45⟩ := h
  obtain ⟨a1, a2, a3, a4, a5, a6, a7, a8, a9, a10, a11, a12, a13, a14, a15, a16⟩ := hS
  obtain ⟨n1, n2, n3, n4, n5, n6, n7⟩ := hN
  obtain ⟨b1, b2, b3, b4, b5, b6, b7, b8, b9, b10, b11, b12, b13, b14, b15, b16⟩ := hS2
  have sL := b4.2.1.2.2.1
  have hL16 := b4.L16
  have hlen : (lx ++ exL δ ++ exL δ2).length < 1600 := by omega
  have g257 : gR MX2 257 = qf := by rw [b14.2.2, n7.R, a14.2.2]; exact h257
  obtain ⟨e1, e2⟩ := b5.ad (n0 := n0) (x := x) hlen
  have o26 : gA MY2 26 m = opc := (b15.2.1 26 m (by unfold pReg; omega)).trans n5
  have hbs := hYP.2.2.2.2.2.1
  have eex : exL (δ ++ δ2 ++ [(opc, 0)]) = exL δ ++ exL δ2 ++ [x] := by rw [exL_app, exL_app, exL_one, hex]
  refine ⟨by rw [g257]; exact e1, fun w => ?_, by omega, by omega, b4.xad hq, ?_, ?_, ?_, ?_, by rw [List.length_append]; simp; omega, ?_, b11, ?_, by simp; omega, ?_, ?_, by rw [List.length_append] at b16; omega⟩
  · rw [show w + (k2 + 1 + k) = w + k2 + 1 + k by omega, a1, n2, b1]
  · rw [eex, ← List.append_assoc, ← List.append_assoc]
    exact e2
  · refine YP.down (R0 := [opc]) (m := m) (op := op) ?_ ⟨o26, trivial⟩ hbs
    have : nots [opc] = 0 := by
      show (if opc = 43 then 1 else 0) + nots [] = 0
      rw [if_neg ho]
      rfl
    rw [this]
    exact b6
  · rw [show fl (R2 ++ [opc]) = fl R2 ++ [(opc, 0)] by simp [fl], ← List.append_assoc, b7]
    simp
  · intro o ho2
    rcases List.mem_append.mp ho2 with q | q
    · exact Nat.le_trans hr.2 (b8 o q)
    · rw [List.mem_singleton] at q
      rw [q]
      exact hr.1
  · rw [eex]
    simp only [List.length_append, List.length_cons, List.length_nil] at b10 ⊢
    omega
  · intro st hst
    rw [tyL_app, tyL_app, a12 st hst]
    show ((tyL δ2 (ta :: st)).bind (tyL [(opc, 0)])) = _
    rw [b12 (ta :: st) (by simp; omega)]
    show tyL [(opc, 0)] (tb :: ta :: st) = _
    rw [tyL_one]
    exact hty st
  · exact ((a14.tr n7.p).tr b14).tr xAd_FP
  · have := List.length_append (as := ly) (bs := δ)
    exact (a15.tr n6).tr (b15.wk (by omega) (by omega) (by omega))
theorem St.len {n0 L s qf b c0 dp m bs op pw rl r D : Nat} {t : Bool} {lx : List Int32} {ly : List (Int32 × Int32)} {MX MY MX' MY' : Mem} {s' k : Nat} {δ : List (Int32 × Int32)} {R : List Int32} {ly' : List (Int32 × Int32)} (h : En L s qf b c0 dp m bs op pw lx ly MX MY) (hS : St n0 L s qf b c0 dp m bs op pw lx ly MX MY rl r D t MX' MY' s' k δ R ly') : c0 + ly'.length + R.length + pw ≤ s' ∧ ly'.length + R.length = ly.length + δ.length ∧ ly.length + δ.length ≤ (lx ++ exL δ).length ∧ s' ≤ 1600 := by
  have h1 := congrArg List.length hS.2.2.2.2.2.2.1
  have h2 := exL_len (δ := δ)
  have h3 := h.2.2.2.2.2.2.2.2.2.1
  have h4 := hS.2.2.2.2.2.2.2.2.2.1
  have h5 := hS.2.2.2.1.2.1.2.2.1
  have h6 := hS.2.2.2.1.L16
  rw [List.length_append, List.length_append, show (fl R).length = R.length by simp [fl]] at h1
  rw [List.length_append] at h4 ⊢
  omega
end
section
/-! SUMS AND TESTS: from sign to sign on both sides -/
section STEPS
variable {n0 L s qf b c0 dp m bs op pw rl r D : Nat} {t : Bool} {lx : List Int32} {ly : List (Int32 × Int32)} {MX MY MXc MYc : Mem} {sc k : Nat} {δ : List (Int32 × Int32)} {R : List Int32} {lyc : List (Int32 × Int32)}
/-- what follows a sign that was taken: f changes the last frame's phase and begins, ahead, operand is wanted -/
theorem nxt {opc : Int32} {MYj : Mem} (f : Mem → Mem) (hn : 1601 ≤ n0) (h : En L s qf b c0 dp m bs op pw lx ly MX MY) (hS : St n0 L s qf b c0 dp m bs op pw lx ly MX MY rl r D t MXc MYc sc k δ R lyc) (hs : sc < L) (hj1 : YP b c0 dp m bs op [] (ly ++ δ) MYj) (hj2 : FP b (c0 + ly.length) dp m MYc MYj) (hjp : PR L sc MXc MYj) (ho : ¬ opc = 43) (hm : m < 399) (hf1 : ∀ M, PR L sc MXc M → PR L sc MXc (f M)) (hf2 : ∀ M, (∀ k, gI (f M) k = gI M k) ∧ (∀ a, a ≠ 22 → a ≠ 23 → gA (f M) a = gA M a) ∧ FP b (c0 + ly.length) dp m M (f M)) :
    ∃ MX1 MY1 s1 Ma, fX8_advance n0 MXc = some MX1 ∧ fX12_holdsBack n0 opc MYj = some (yPush MYj m opc) ∧ fX12_ahead n0 (f (yPush MYj m opc)) = some Ma ∧ MY1 = sI Ma 45 0 ∧ gI Ma 8 = 0 ∧ FrY (f (yPush MYj m opc)) Ma ∧ ((∀ w, YLp n0 (w + 1) MYc = YLp n0 w MY1) → Nx n0 L qf b c0 dp m bs op pw (lx ++ exL δ) (ly ++ δ) MXc MYc sc (c0 + ly.length) opc MX1 MY1 s1) := by
  obtain ⟨hlen1, hlen2, hlen3, hlen4⟩ := hS.len h
  obtain ⟨hP, h257, hq, hxl, hYP, h258, hdo, hmp, hcs, hll, h45⟩ := h
  obtain ⟨a1, a2, a3, a4, a5, a6, a7, a8, a9, a10, a11, a12, a13, a14, a15, a16⟩ := hS
  obtain ⟨p1, p2⟩ := hj1.push (n0 := n0) (o := opc) ho (by simp; omega)
  rw [show m + ([] : List Int32).length = m by simp] at p1 p2
  have hpp : PR L sc MXc (f (yPush MYj m opc)) := hf1 _ hjp.push
  obtain ⟨MX1, Ma, s1, ax, ay, hs1, hP1, fx, fy⟩ := hpp.adv hn hs
  have fY := fy.Y
  obtain ⟨g1, g2, g3⟩ := hf2 (yPush MYj m opc)
  have hFP : FP b (c0 + ly.length) dp m MYc (sI Ma 45 0) := (((hj2.tr (yPush_FP (Nat.le_refl m))).tr g3).tr fY.p).i (by unfold pInt; omega)
  refine ⟨MX1, sI Ma 45 0, s1, Ma, ax, p1, ay, rfl, hP1.f8, fY, fun hw => ⟨ax, hw, hs1, ⟨hP1.in_ (by decide), ?_, hq, ?_, ?_, ⟨?_, ?_⟩, hdo, by omega, ?_, ?_, gI_at⟩, ?_, hFP, fx.wk (by decide) (by decide)⟩⟩
  · rw [fx.R, a14.2.2]; exact h257
  · exact a5.fi (fx.wk (by decide) (by decide)) hq
  · have hup : YP b c0 dp (m + 1) bs op [] (ly ++ δ) (yPush MYj m opc) := by
      have := p2.up
      have e : nots [opc] = 0 := by
        show (if opc = 43 then 1 else 0) + nots [] = 0
        rw [if_neg ho]
        rfl
      rw [e] at this
      exact this
    have h2 : YP b c0 dp (m + 1) bs op [] (ly ++ δ) (f (yPush MYj m opc)) := hup.cong (fun k _ => g1 k) (fun a ha => g2 a (by omega) (by omega))
    exact (h2.tok fY).cong (fun k hk => gI_ne (by omega)) (fun a _ => rfl)
  · rw [fx.2 258 (by omega), a14.1 258 (by omega), h258.1]
    rw [hFP.1 35 (by unfold pInt; omega), a15.1 35 (by unfold pInt; omega)]
  · rw [fx.2 258 (by omega), a14.1 258 (by omega)]
    exact h258.2
  · omega
  · rw [List.length_append]; exact hlen3
  · show gA Ma 26 m = _
    rw [fY.2.1 26 id, g2 26 (by decide) (by decide)]
    unfold yPush
    show gA (sA MYj 26 m opc) 26 m = _
    rw [gA_sA, if_pos rfl, if_pos rfl]
def opOf (k : Int32) : Int32 := if k = 43 then 31 else if k = 45 then 32 else if k = 42 then 33 else if k = 47 then 34 else 35
theorem nxA {least : Nat} (hn : 1601 ≤ n0) (h : En L s qf b c0 dp m bs op pw lx ly MX MY) (hS : St n0 L s qf b c0 dp m bs op pw lx ly MX MY rl r D t MXc MYc sc k δ R lyc) (hk : ari (gI MXc 386)) (hl : least = if gI MXc 386 = 43 ∨ gI MXc 386 = 45 then 5 else 6) (hlr : least ≤ r) (hph : ¬ (2 : Int32) ≤ gA MYc 22 (dp - 1)) (hm : m < 399) (hoc : m = bs ∨ rkI (gA MY 26 (m - 1)) < least) (hmb : 1 ≤ m ∨ m = bs) :
    ∃ MX1 MY1 s1, Nx n0 L qf b c0 dp m bs op pw (lx ++ exL δ) (ly ++ δ) MXc MYc sc (c0 + ly.length) (opOf (gI MXc 386)) MX1 MY1 s1 ∧ gA MY1 22 (dp - 1) = gA MYc 22 (dp - 1) ∧ gA MY1 23 (dp - 1) = gA MYc 23 (dp - 1) := by
  have hh := h
  have hSS := hS
  obtain ⟨hlen1, hlen2, hlen3, hlen4⟩ := hS.len h
  obtain ⟨hP, h257, hq, hxl, hYP, h258, hdo, hmp, hcs, hll, h45⟩ := h
  obtain ⟨a1, a2, a3, a4, a5, a6, a7, a8, a9, a10, a11, a12, a13, a14, a15, a16⟩ := hS
  have nb : ¬ gI MXc 386 = 259 := by rcases hk with e | e | e | e | e <;> rw [e] <;> decide
  have hs := a4.2.1.2.2.2.2.lt nb
  have hl6 : least ≤ 6 := by rw [hl]; split <;> omega
  obtain ⟨Mj, ej, yj, fj⟩ := a6.join (n0 := n0) (least := least) hn (fun o ho => Nat.le_trans hlr (a8 o ho)) (by
    rcases hoc with q | q
    · exact Or.inl q
    · by_cases g : m = bs
      · exact Or.inl g
      · right
        rw [a15.2.1 26 (m - 1) (by unfold pReg; omega)]
        exact q) (by omega) hl6
  rw [a7] at yj
  have hbsm := hYP.2.2.2.2.2.1
  have ho : ¬ opOf (gI MXc 386) = 43 := by unfold opOf; rcases hk with e | e | e | e | e <;> rw [e] <;> decide
  obtain ⟨MX1, MY1, s1, Ma, q1, q2, q3, q4, q5, q6, q7⟩ := nxt (opc := opOf (gI MXc 386)) (fun M => M) hn hh hSS hs yj ((fj.p).wk (by omega) (Nat.le_refl _) (Nat.le_refl _)) (a4.jn fj) ho hm (fun M h => h) (fun M => ⟨fun _ => rfl, fun _ _ _ => rfl, FP.r⟩)
  have pj := a4.jn fj
  have hgo : fX12_goesOn n0 MYc = some (1, MY1) := by
    rw [ygoA a4 hk a6.2.2.1 a6.2.2.2.1 hph]
    have e112 : (if gI MXc 386 = 43 ∨ gI MXc 386 = 45 then (5 : Int32) else 6) = nI least := by
      rw [hl]
      split <;> rfl
    rw [e112]
    have e174 : ∀ o, o = opOf (gI MXc 386) → fX12_goesOn_174 n0 o Mj = some (1, MY1) := fun o eo => by
      subst eo
      unfold fX12_goesOn_174
      exact eq_b q2 (eq_b q3 (eq_n (by rw [q4])))
    unfold fX12_goesOn_112
    refine eq_b ej (eq_b (ySign (by decide) pj) ?_)
    unfold opOf at e174
    by_cases g1 : gI MXc 386 = 43
    · exact eq_f (bz g1) (e174 _ (by rw [if_pos g1]))
    refine eq_t (bI_f g1) (eq_b (ySign (by decide) pj) ?_)
    by_cases g2 : gI MXc 386 = 45
    · exact eq_f (bz g2) (e174 _ (by rw [if_neg g1, if_pos g2]))
    refine eq_t (bI_f g2) (eq_b (ySign (by decide) pj) ?_)
    by_cases g3 : gI MXc 386 = 42
    · exact eq_f (bz g3) (e174 _ (by rw [if_neg g1, if_neg g2, if_pos g3]))
    refine eq_t (bI_f g3) (eq_b (ySign (by decide) pj) ?_)
    by_cases g4 : gI MXc 386 = 47
    · exact eq_f (bz g4) (e174 _ (by rw [if_neg g1, if_neg g2, if_neg g3, if_pos g4]))
    exact eq_t (bI_f g4) (e174 _ (by rw [if_neg g1, if_neg g2, if_neg g3, if_neg g4]))
  have m8 : gI MY1 8 = 0 := by rw [q4, gI_ne (by decide)]; exact q5
  have keep : ∀ a, a = 22 ∨ a = 23 → gA MY1 a (dp - 1) = gA MYc a (dp - 1) := fun a ha => by
    rw [q4]
    show gA Ma a (dp - 1) = _
    rw [q6.2.1 a id]
    unfold yPush
    show gA (sA Mj 26 m _) a (dp - 1) = _
    rw [gA_sA_ne (by omega), fj.2.1 a _ (by omega)]
  exact ⟨MX1, MY1, s1, q7 (fun w => ylgo (by rw [a11]; decide) hgo m8), keep 22 (Or.inl rfl), keep 23 (Or.inr rfl)⟩
def cmOf (k : Int32) : Int32 := if k = 60 then 38 else if k = 62 then 39 else 40
theorem nxC (hn : 1601 ≤ n0) (h : En L s qf b c0 dp m bs op pw lx ly MX MY) (hS : St n0 L s qf b c0 dp m bs op pw lx ly MX MY rl r D t MXc MYc sc k δ R lyc) (hk : gI MXc 386 = 60 ∨ gI MXc 386 = 62 ∨ gI MXc 386 = 61) (hlr : 5 ≤ r) (hT : isT (gA MYc 21 (dp - 1))) (hph : gA MYc 22 (dp - 1) = 0) (hm : m < 399) (hoc : m = bs ∨ rkI (gA MY 26 (m - 1)) < 5) :
    ∃ MX1 MY1 s1, Nx n0 L qf b c0 dp m bs op pw (lx ++ exL δ) (ly ++ δ) MXc MYc sc (c0 + ly.length) (cmOf (gI MXc 386)) MX1 MY1 s1 ∧ gA MY1 22 (dp - 1) = 1 ∧ gA MY1 23 (dp - 1) = gA MYc 23 (dp - 1) := by
  have hh := h
  have hSS := hS
  obtain ⟨hlen1, hlen2, hlen3, hlen4⟩ := hS.len h
  obtain ⟨hP, h257, hq, hxl, hYP, h258, hdo, hmp, hcs, hll, h45⟩ := h
  obtain ⟨a1, a2, a3, a4, a5, a6, a7, a8, a9, a10, a11, a12, a13, a14, a15, a16⟩ := hS
  have nb : ¬ gI MXc 386 = 259 := by rcases hk with e | e | e <;> rw [e] <;> decide
  have nb2 : ¬ gI MXc 386 = 258 := by rcases hk with e | e | e <;> rw [e] <;> decide
  have na : ¬ ari (gI MXc 386) := by rcases hk with e | e | e <;> rw [e] <;> decide
  have hs := a4.2.1.2.2.2.2.lt nb
  obtain ⟨Mj, ej, yj, fj⟩ := a6.join (n0 := n0) (least := 5) hn (fun o ho => Nat.le_trans hlr (a8 o ho)) (by
    rcases hoc with q | q
    · exact Or.inl q
    · by_cases g : m = bs
      · exact Or.inl g
      · right
        have := hYP.2.2.2.2.2.1
        rw [a15.2.1 26 (m - 1) (by unfold pReg; omega)]
        exact q) (by omega) (by decide)
  rw [a7] at yj
  have hdp := a6.2.2.2.1
  have ho : ¬ cmOf (gI MXc 386) = 43 := by unfold cmOf; rcases hk with e | e | e <;> rw [e] <;> decide
  obtain ⟨MX1, MY1, s1, Ma, q1, q2, q3, q4, q5, q6, q7⟩ := nxt (opc := cmOf (gI MXc 386)) (fun M => sA M 22 (dp - 1) 1) hn hh hSS hs yj ((fj.p).wk (by omega) (Nat.le_refl _) (Nat.le_refl _)) (a4.jn fj) ho hm (fun M h => h.ar (by decide)) (fun M => ⟨fun _ => rfl, fun a h1 _ => gA_sA_ne h1, FP.r.a (by unfold pReg; omega)⟩)
  have pj := a4.jn fj
  have hcl : (nI (dp - 1)).toNatClampNeg = dp - 1 := nI_clamp (by omega)
  have o : ¬ oob (nI (dp - 1)) 20 := nI_in (by omega) (by decide)
  have hgo : fX12_goesOn n0 MYc = some (1, MY1) := by
    rw [ygo188 a4 nb2 (Or.inl na) a6.2.2.1 hdp]
    have e264 : ∀ o', o' = cmOf (gI MXc 386) → fX12_goesOn_264 n0 (nI (dp - 1)) o' Mj = some (1, MY1) := fun o' eo => by
      subst eo
      unfold fX12_goesOn_264
      simp only [hcl]
      exact eq_b q2 (eq_f o (eq_n (eq_b q3 (eq_n (by rw [q4])))))
    have e228 : fX12_goesOn_228 n0 (nI (dp - 1)) MYc = some (1, MY1) := by
      unfold fX12_goesOn_228
      refine eq_b ej (eq_b (ySign (by decide) pj) ?_)
      unfold cmOf at e264
      by_cases g1 : gI MXc 386 = 60
      · exact eq_f (bz g1) (e264 _ (by rw [if_pos g1]))
      refine eq_t (bI_f g1) (eq_b (ySign (by decide) pj) ?_)
      by_cases g2 : gI MXc 386 = 62
      · exact eq_f (bz g2) (e264 _ (by rw [if_neg g1, if_pos g2]))
      exact eq_t (bI_f g2) (e264 _ (by rw [if_neg g1, if_neg g2]))
    unfold fX12_goesOn_188
    simp only [hcl]
    refine eq_f (bz hT) (eq_f o (eq_t hph (eq_b (ySign (by decide) a4) ?_)))
    by_cases g1 : gI MXc 386 = 60
    · exact eq_f (bz g1) e228
    refine eq_t (bI_f g1) (eq_b (ySign (by decide) a4) ?_)
    by_cases g2 : gI MXc 386 = 62
    · exact eq_f (bz g2) e228
    refine eq_t (bI_f g2) (eq_b (ySign (by decide) a4) ?_)
    have g3 : gI MXc 386 = 61 := by
      rcases hk with q | q | q
      · exact absurd q g1
      · exact absurd q g2
      · exact q
    exact eq_f (bz g3) e228
  have m8 : gI MY1 8 = 0 := by rw [q4, gI_ne (by decide)]; exact q5
  refine ⟨MX1, MY1, s1, q7 (fun w => ylgo (by rw [a11]; decide) hgo m8), ?_, ?_⟩
  · rw [q4]
    show gA Ma 22 (dp - 1) = _
    rw [q6.2.1 22 id, gA_sA, if_pos rfl, if_pos rfl]
  · rw [q4]
    show gA Ma 23 (dp - 1) = _
    rw [q6.2.1 23 id, gA_sA_ne (by decide)]
    unfold yPush
    show gA (sA Mj 26 m _) 23 (dp - 1) = _
    rw [gA_sA_ne (by decide), fj.2.1 23 _ (by omega)]
/-- and, or -/
theorem nxL {least : Nat} (hn : 1601 ≤ n0) (h : En L s qf b c0 dp m bs op pw lx ly MX MY) (hS : St n0 L s qf b c0 dp m bs op pw lx ly MX MY rl r D t MXc MYc sc k δ R lyc) (hk : gI MXc 386 = 280 ∨ gI MXc 386 = 279) (hl : least = if gI MXc 386 = 280 then 2 else 1) (hlr : least ≤ r) (hT : isT (gA MYc 21 (dp - 1))) (hph : ¬ gA MYc 22 (dp - 1) = 0) (hm : m < 399) (hoc : m = bs ∨ rkI (gA MY 26 (m - 1)) < least) :
    ∃ MX1 MY1 s1, Nx n0 L qf b c0 dp m bs op pw (lx ++ exL δ) (ly ++ δ) MXc MYc sc (c0 + ly.length) (if gI MXc 386 = 280 then 41 else 42) MX1 MY1 s1 ∧ gA MY1 22 (dp - 1) = 0 ∧ gA MY1 23 (dp - 1) = 1 := by
  have hh := h
  have hSS := hS
  obtain ⟨hlen1, hlen2, hlen3, hlen4⟩ := hS.len h
  obtain ⟨hP, h257, hq, hxl, hYP, h258, hdo, hmp, hcs, hll, h45⟩ := h
  obtain ⟨a1, a2, a3, a4, a5, a6, a7, a8, a9, a10, a11, a12, a13, a14, a15, a16⟩ := hS
  have nb : ¬ gI MXc 386 = 259 := by rcases hk with e | e <;> rw [e] <;> decide
  have nb2 : ¬ gI MXc 386 = 258 := by rcases hk with e | e <;> rw [e] <;> decide
  have na : ¬ ari (gI MXc 386) := by rcases hk with e | e <;> rw [e] <;> decide
  have hs := a4.2.1.2.2.2.2.lt nb
  have hl6 : least ≤ 6 := by rw [hl]; split <;> omega
  obtain ⟨Mj, ej, yj, fj⟩ := a6.join (n0 := n0) (least := least) hn (fun o ho => Nat.le_trans hlr (a8 o ho)) (by
    rcases hoc with q | q
    · exact Or.inl q
    · by_cases g : m = bs
      · exact Or.inl g
      · right
        have := hYP.2.2.2.2.2.1
        rw [a15.2.1 26 (m - 1) (by unfold pReg; omega)]
        exact q) (by omega) hl6
  rw [a7] at yj
  have hdp := a6.2.2.2.1
  have e8 : gI MYc 8 ≤ 0 := by rw [a4.f8]; exact i00
  have ho : ¬ (if gI MXc 386 = 280 then (41 : Int32) else 42) = 43 := by split <;> decide
  obtain ⟨MX1, MY1, s1, Ma, q1, q2, q3, q4, q5, q6, q7⟩ := nxt (opc := if gI MXc 386 = 280 then 41 else 42) (fun M => sA (sA M 22 (dp - 1) 0) 23 (dp - 1) 1) hn hh hSS hs yj ((fj.p).wk (by omega) (Nat.le_refl _) (Nat.le_refl _)) (a4.jn fj) ho hm (fun M h => (h.ar (by decide)).ar (by decide)) (fun M => ⟨fun _ => rfl, fun a h1 h2 => by rw [gA_sA_ne h2, gA_sA_ne h1], (FP.r.a (by unfold pReg; omega)).a (by unfold pReg; omega)⟩)
  have hcl : (nI (dp - 1)).toNatClampNeg = dp - 1 := nI_clamp (by omega)
  have o : ¬ oob (nI (dp - 1)) 20 := nI_in (by omega) (by decide)
  have w1 : fX12_isWord n0 6385252 MYc = some (bI (gI MXc 386 = 280), MYc) := yWord (i := 20) (by decide) (by decide) (by decide) a4 nb2
  have w2 : fX12_isWord n0 28530 MYc = some (bI (gI MXc 386 = 279), MYc) := yWord (i := 19) (by decide) (by decide) (by decide) a4 nb2
  have hgo : fX12_goesOn n0 MYc = some (1, MY1) := by
    rw [ygo188 a4 nb2 (Or.inl na) a6.2.2.1 hdp]
    have e372 : ∀ o', o' = (if gI MXc 386 = 280 then (41 : Int32) else 42) → fX12_goesOn_372 n0 (nI (dp - 1)) o' Mj = some (1, MY1) := fun o' eo => by
      subst eo
      unfold fX12_goesOn_372
      simp only [hcl]
      exact eq_b q2 (eq_f o (eq_n (eq_f o (eq_n (eq_b q3 (eq_n (by rw [q4])))))))
    have e309 : fX12_goesOn_309 n0 (nI (dp - 1)) MYc = some (1, MY1) := by
      unfold fX12_goesOn_309 fX12_goesOn_327 fX12_goesOn_356
      simp only [hcl]
      refine eq_f o (eq_f hph (eq_t e8 (eq_b w1 ?_)))
      by_cases g : gI MXc 386 = 280
      · rw [if_pos g] at hl
        subst hl
        exact eq_f (bz g) (eq_b ej (eq_f (bz g) (e372 _ (by rw [if_pos g]))))
      · rw [if_neg g] at hl
        subst hl
        exact eq_t (bI_f g) (eq_b ej (eq_t (bI_f g) (e372 _ (by rw [if_neg g]))))
    have e285 : fX12_goesOn_285 n0 (nI (dp - 1)) (gA MYc 21 (dp - 1)) (bI (isT (gA MYc 21 (dp - 1)))) MYc = some (1, MY1) := by
      unfold fX12_goesOn_285
      refine eq_f (bz hT) (eq_b w1 ?_)
      by_cases g : gI MXc 386 = 280
      · exact eq_f (bz g) e309
      · have g2 : gI MXc 386 = 279 := by
          rcases hk with q | q
          · exact absurd q g
          · exact q
        exact eq_t (bI_f g) (eq_b w2 (eq_f (bz g2) e309))
    unfold fX12_goesOn_188
    simp only [hcl]
    exact eq_f (bz hT) (eq_f o (eq_f hph e285))
  have m8 : gI MY1 8 = 0 := by rw [q4, gI_ne (by decide)]; exact q5
  refine ⟨MX1, MY1, s1, q7 (fun w => ylgo (by rw [a11]; decide) hgo m8), ?_, ?_⟩
  · rw [q4]
    show gA Ma 22 (dp - 1) = _
    rw [q6.2.1 22 id, gA_sA_ne (by decide), gA_sA, if_pos rfl, if_pos rfl]
  · rw [q4]
    show gA Ma 23 (dp - 1) = _
    rw [q6.2.1 23 id, gA_sA, if_pos rfl, if_pos rfl]
end STEPS
end
section
/-! SUMS AND TESTS: brackets on both sides -/
section BR
variable {n0 L s dp : Nat} {MX MY : Mem}
theorem ygo422 (h : PR L s MX MY) (hb : ¬ gI MX 386 = 258) (hk : ¬ ari (gI MX 386) ∨ (2 : Int32) ≤ gA MY 22 (dp - 1)) (hT : ¬ isT (gA MY 21 (dp - 1)) ∨ (¬ gA MY 22 (dp - 1) = 0 ∧ ¬ gI MX 386 = 280 ∧ ¬ gI MX 386 = 279)) (h41 : gI MY 41 = nI dp) (hdp : 1 ≤ dp ∧ dp ≤ 9) : fX12_goesOn n0 MY = fX12_goesOn_422 n0 (nI (dp - 1)) (gA MY 21 (dp - 1)) MY := by
  have hcl : (nI (dp - 1)).toNatClampNeg = dp - 1 := nI_clamp (by omega)
  have o : ¬ oob (nI (dp - 1)) 20 := nI_in (by omega) (by decide)
  rw [ygo188 h hb hk h41 hdp]
  unfold fX12_goesOn_188 fX12_goesOn_285 fX12_goesOn_400
  simp only [hcl]
  by_cases g : isT (gA MY 21 (dp - 1))
  · have q : ¬ gA MY 22 (dp - 1) = 0 ∧ ¬ gI MX 386 = 280 ∧ ¬ gI MX 386 = 279 := by
      rcases hT with q | q
      · exact absurd g q
      · exact q
    exact eq_f (bz g) (eq_f o (eq_f q.1 (eq_f (bz g) (eq_b (yWord (i := 20) (kk := 280) (by decide) (by decide) (by decide) h hb) (eq_t (bI_f q.2.1) (eq_b (yWord (i := 19) (kk := 279) (by decide) (by decide) (by decide) h hb) (eq_t (bI_f q.2.2) (eq_f (bz g) (eq_f o (eq_f q.1 rfl))))))))))
  · exact eq_t (bI_f g) (eq_t (bI_f g) (eq_t (bI_f g) rfl))
theorem y452F {x1 x2 : Int32} {M : Mem} (h : ¬ gI M 8 ≤ 0) : fX12_goesOn_452 n0 x1 x2 M = some (0, M) := by
  unfold fX12_goesOn_452 fX12_goesOn_470
  rcases ySign2 (n0 := n0) (c := 44) (M := M) with q | q
  · exact eq_b q (eq_t rfl (eq_b (yblame1 h) (eq_f h rfl)))
  · exact eq_b q (eq_f i10 (eq_f h rfl))
theorem y531F {x1 x2 c : Int32} {M : Mem} (h : ¬ gI M 8 ≤ 0) : fX12_goesOn_531 n0 x1 x2 c M = some (0, M) := by
  unfold fX12_goesOn_531 fX12_goesOn_546
  rcases ySign2 (n0 := n0) (c := c) (M := M) with q | q
  · exact eq_b q (eq_t rfl (eq_b (yblame1 h) (eq_f h rfl)))
  · exact eq_b q (eq_f i10 (eq_f h rfl))
theorem y422F {x1 x2 : Int32} {M : Mem} (h : ¬ gI M 8 ≤ 0) : fX12_goesOn_422 n0 x1 x2 M = some (0, M) := by
  unfold fX12_goesOn_422
  by_cases g : (2 : Int32) ≤ x2
  · refine eq_t g ?_
    by_cases g3 : x2 = 3
    · exact eq_t g3 (y452F h)
    refine eq_f g3 ?_
    by_cases g6 : x2 = 6
    · exact eq_t g6 (y452F h)
    refine eq_f g6 ?_
    by_cases g5 : x2 = 5
    · exact eq_t g5 (y531F h)
    · exact eq_f g5 (y531F h)
  · exact eq_f g (eq_f (pos_ne h) rfl)
/-- a test that was not compared, and no sign that compares -/
theorem ygoT0 (h : PR L s MX MY) (hb : ¬ gI MX 386 = 258) (hk : ¬ ari (gI MX 386)) (hc : ¬ gI MX 386 = 60 ∧ ¬ gI MX 386 = 62 ∧ ¬ gI MX 386 = 61) (hT : isT (gA MY 21 (dp - 1))) (hph : gA MY 22 (dp - 1) = 0) (h41 : gI MY 41 = nI dp) (hdp : 1 ≤ dp ∧ dp ≤ 9) : fX12_goesOn n0 MY = some (0, sI (sI MY 8 1) 9 (nI s)) := by
  have hcl : (nI (dp - 1)).toNatClampNeg = dp - 1 := nI_clamp (by omega)
  have o : ¬ oob (nI (dp - 1)) 20 := nI_in (by omega) (by decide)
  have n1 : ¬ gI (sI (sI MY 8 1) 9 (nI s)) 8 ≤ 0 := n8f (k := 1) (by decide) (by decide)
  have yb : fX12_blame n0 1 (gI MY 4) MY = some (sI (sI MY 8 1) 9 (nI s)) := by rw [h.at_]; exact yblame0 h.f8
  have e309 : fX12_goesOn_309 n0 (nI (dp - 1)) MY = some (0, sI (sI MY 8 1) 9 (nI s)) := by
    unfold fX12_goesOn_309 fX12_goesOn_327
    simp only [hcl]
    exact eq_f o (eq_t hph (eq_b yb (eq_f n1 rfl)))
  have w1 : fX12_isWord n0 6385252 MY = some (bI (gI MX 386 = 280), MY) := yWord (i := 20) (by decide) (by decide) (by decide) h hb
  have w2 : fX12_isWord n0 28530 MY = some (bI (gI MX 386 = 279), MY) := yWord (i := 19) (by decide) (by decide) (by decide) h hb
  rw [ygo188 h hb (Or.inl hk) h41 hdp]
  unfold fX12_goesOn_188 fX12_goesOn_285 fX12_goesOn_400
  simp only [hcl]
  refine eq_f (bz hT) (eq_f o (eq_t hph (eq_b (ySign (by decide) h) (eq_t (bI_f hc.1) (eq_b (ySign (by decide) h) (eq_t (bI_f hc.2.1) (eq_b (ySign (by decide) h) (eq_t (bI_f hc.2.2) (eq_f (bz hT) (eq_b w1 ?_))))))))))
  by_cases g1 : gI MX 386 = 280
  · exact eq_f (bz g1) e309
  refine eq_t (bI_f g1) (eq_b w2 ?_)
  by_cases g2 : gI MX 386 = 279
  · exact eq_f (bz g2) e309
  exact eq_t (bI_f g2) (eq_f (bz hT) (eq_f o (eq_t hph (eq_b yb (y422F n1)))))
/-- the sign that must end a frame of this kind -/
def endOf (k : Int32) : Int32 := if k = 3 ∨ k = 6 then 44 else if k = 5 then 93 else 41
theorem endOf_b (k : Int32) : (0 : Int32) ≤ endOf k ∧ endOf k ≤ 255 := by
  unfold endOf
  repeat' split
  all_goals decide
theorem ygoEnd {x1 kf : Int32} (h : PR L s MX MY) (hk : ¬ gI MX 386 = endOf kf) (hkf : (2 : Int32) ≤ kf) (hb : ¬ gI MX 386 = 258) : fX12_goesOn_422 n0 x1 kf MY = some (0, sI (sI MY 8 1) 9 (nI s)) := by
  have n1 : ¬ gI (sI (sI MY 8 1) 9 (nI s)) 8 ≤ 0 := n8f (k := 1) (by decide) (by decide)
  have yb : fX12_blame n0 1 (gI MY 4) MY = some (sI (sI MY 8 1) 9 (nI s)) := by rw [h.at_]; exact yblame0 h.f8
  unfold fX12_goesOn_422
  refine eq_t hkf ?_
  unfold endOf at hk
  by_cases g3 : kf = 3
  · rw [if_pos (Or.inl g3)] at hk
    unfold fX12_goesOn_452 fX12_goesOn_470
    exact eq_t g3 (eq_b (ySign (by decide) h) (eq_t (bI_f hk) (eq_b yb (eq_f n1 rfl))))
  refine eq_f g3 ?_
  by_cases g6 : kf = 6
  · rw [if_pos (Or.inr g6)] at hk
    unfold fX12_goesOn_452 fX12_goesOn_470
    exact eq_t g6 (eq_b (ySign (by decide) h) (eq_t (bI_f hk) (eq_b yb (eq_f n1 rfl))))
  have n36 : ¬ (kf = 3 ∨ kf = 6) := by rintro (q | q) <;> contradiction
  rw [if_neg n36] at hk
  refine eq_f g6 ?_
  unfold fX12_goesOn_531 fX12_goesOn_546
  by_cases g5 : kf = 5
  · rw [if_pos g5] at hk
    exact eq_t g5 (eq_b (ySign (by decide) h) (eq_t (bI_f hk) (eq_b yb (eq_f n1 rfl))))
  · rw [if_neg g5] at hk
    exact eq_f g5 (eq_b (ySign (by decide) h) (eq_t (bI_f hk) (eq_b yb (eq_f n1 rfl))))
end BR
section OP
variable {n0 L s b c0 dp m bs op : Nat} {ly : List (Int32 × Int32)} {MX M : Mem}
theorem opF {kk : Int32} (h : PR L s MX M) (h42 : gI M 42 = 7) : fX12_opens n0 kk M = some (sI (sI M 8 5) 9 (nI s)) := by
  unfold fX12_opens fX12_opens_18
  rw [h.at_]
  exact eq_t h42 (eq_b (yblame0 h.f8) (eq_f (n8f (k := 5) (by decide) (by decide)) rfl))
theorem opP {kk : Int32} (hn : 1601 ≤ n0) (hP : PR L s MX M) (hs : s < L) (hY : YP b c0 dp m bs op [] ly M) (h7 : op < 7) (hdo : dp ≤ op + 1) : ∃ MX' M' s', fX8_advance n0 MX = some MX' ∧ fX12_opens n0 kk M = some M' ∧ s < s' ∧ PR L s' MX' M' ∧ YP b c0 (dp + 1) m m (op + 1) [] ly M' ∧ gA M' 21 dp = kk ∧ gA M' 22 dp = 0 ∧ gA M' 23 dp = 1 ∧ FI 386 392 MX MX' ∧ FP b (c0 + ly.length) dp m M M' ∧ gA M' 22 (dp - 1) = gA M 22 (dp - 1) ∧ gA M' 23 (dp - 1) = gA M 23 (dp - 1) := by
  obtain ⟨h1, h2, h3, h4, h5, h6, h7', h8, h9, h10, h11, h12, h13⟩ := hY
  have e42 : gI M 42 = nI op := h12
  have hP1 : PR L s MX (sI M 42 (nI (op + 1))) := hP.in_ (by decide)
  obtain ⟨MX', Ma, s', ax, ay, hs', hP', fx, fy⟩ := hP1.adv hn hs
  have fY := fy.Y
  have m41 : gI Ma 41 = nI dp := (fY.1 41 (by omega)).trans h3
  have m44 : gI Ma 44 = nI m := (fY.1 44 (by omega)).trans h7'
  have o : ¬ oob (gI Ma 41) 20 := by rw [m41]; exact nI_in (by omega) (by decide)
  have c41 : (gI Ma 41).toNatClampNeg = dp := by rw [m41, nI_clamp (by omega)]
  have epush : fX12_pushes n0 kk Ma = some (sI (sA (sA (sA (sA Ma 21 dp kk) 22 dp 0) 23 dp 1) 25 dp (nI m)) 41 (nI (dp + 1))) := by
    unfold fX12_pushes
    refine eq_f o (eq_n (eq_f o (eq_n (eq_f o (eq_n (eq_f o (eq_n ?_)))))))
    simp only [gI_sA, c41]
    rw [m41, m44, nI_1]
  refine ⟨MX', sI (sA (sA (sA (sA Ma 21 dp kk) 22 dp 0) 23 dp 1) 25 dp (nI m)) 41 (nI (dp + 1)), s', ax, ?_, hs', ?_, ?_, ?_, ?_, ?_, fx.wk (by decide) (by decide), ?_, ?_, ?_⟩
  · unfold fX12_opens fX12_opens_18
    have n7 : ¬ gI M 42 = 7 := by rw [e42]; exact fun q => by have := (nI_eq (a := op) (b := 7) (by omega) (by decide)).mp q; omega
    refine eq_f n7 (eq_t (by rw [hP.f8]; exact i00) (eq_n ?_))
    rw [e42, nI_1]
    exact eq_b ay (eq_b epush rfl)
  · exact ((((hP'.ar (by decide)).ar (by decide)).ar (by decide)).ar (by decide)).in_ (by decide)
  · refine ⟨?_, h2, gI_at, ⟨by omega, by omega⟩, ?_, Nat.le_refl m, ?_, trivial, h9, ?_, ?_, ?_, ?_⟩
    · rw [gI_ne (by decide)]; exact (fY.1 34 (by omega)).trans h1
    · rw [Nat.add_sub_cancel]
      show gA (sA (sA (sA (sA Ma 21 dp kk) 22 dp 0) 23 dp 1) 25 dp (nI m)) 25 dp = _
      rw [gA_sA, if_pos rfl, if_pos rfl]
    · rw [gI_ne (by decide)]; exact m44
    · rw [gI_ne (by decide)]; exact (fY.1 33 (by omega)).trans h10
    · refine h11.cong (fun i _ => ⟨?_, ?_⟩)
      · show gA (sA (sA (sA (sA Ma 21 dp kk) 22 dp 0) 23 dp 1) 25 dp (nI m)) 16 _ = _
        rw [gA_sA_ne (by decide), gA_sA_ne (by decide), gA_sA_ne (by decide), gA_sA_ne (by decide), fY.2.1 16 id]
        rfl
      · show gA (sA (sA (sA (sA Ma 21 dp kk) 22 dp 0) 23 dp 1) 25 dp (nI m)) 17 _ = _
        rw [gA_sA_ne (by decide), gA_sA_ne (by decide), gA_sA_ne (by decide), gA_sA_ne (by decide), fY.2.1 17 id]
        rfl
    · rw [gI_ne (by decide)]
      show gI Ma 42 = nI (op + 1)
      rw [fY.1 42 (by omega), gI_at]
    · have : nots [] = 0 := rfl
      omega
  · show gA (sA (sA (sA (sA Ma 21 dp kk) 22 dp 0) 23 dp 1) 25 dp (nI m)) 21 dp = _
    rw [gA_sA_ne (by decide), gA_sA_ne (by decide), gA_sA_ne (by decide), gA_sA, if_pos rfl, if_pos rfl]
  · show gA (sA (sA (sA (sA Ma 21 dp kk) 22 dp 0) 23 dp 1) 25 dp (nI m)) 22 dp = _
    rw [gA_sA_ne (by decide), gA_sA_ne (by decide), gA_sA, if_pos rfl, if_pos rfl]
  · show gA (sA (sA (sA (sA Ma 21 dp kk) 22 dp 0) 23 dp 1) 25 dp (nI m)) 23 dp = _
    rw [gA_sA_ne (by decide), gA_sA, if_pos rfl, if_pos rfl]
  · refine ((((((FP.r.i (k := 42) (by unfold pInt; omega)).tr fY.p).a ?_).a ?_).a ?_).a ?_).i (by unfold pInt; omega) <;> (unfold pReg; omega)
  · show gA (sA (sA (sA (sA Ma 21 dp kk) 22 dp 0) 23 dp 1) 25 dp (nI m)) 22 (dp - 1) = _
    rw [gA_sA_ne (by decide), gA_sA_ne (by decide), gA_sA, if_pos rfl, if_neg (by omega), gA_sA_ne (by decide), fY.2.1 22 id]
    rfl
  · show gA (sA (sA (sA (sA Ma 21 dp kk) 22 dp 0) 23 dp 1) 25 dp (nI m)) 23 (dp - 1) = _
    rw [gA_sA_ne (by decide), gA_sA, if_pos rfl, if_neg (by omega), gA_sA_ne (by decide), gA_sA_ne (by decide), fY.2.1 23 id]
    rfl
end OP
section CL
variable {n0 L s b c0 dp m bs op : Nat} {ly : List (Int32 × Int32)} {R : List Int32} {MX M : Mem}
/-- the end of a frame: what waits is joined, the frame goes -/
theorem cl546 {x2 : Int32} (hn : 1601 ≤ n0) (hP : PR L s MX M) (hY : YP b c0 (dp + 1) m m (op + 1) R ly M) (hR : ∀ o ∈ R, 1 ≤ rkI o) (hc : c0 + ly.length + R.length ≤ 1600) (hdp : 1 ≤ dp) (hbs : gA M 25 (dp - 1) = nI bs) (hb : bs ≤ m) :
    ∃ Mj, PR L s MX Mj ∧ YP b c0 dp m bs op [] (ly ++ fl R) Mj ∧ (∀ a i, a ≠ 16 → a ≠ 17 → gA Mj a i = gA M a i) ∧ gI Mj 45 = gI M 45 ∧ FP b (c0 + ly.length) dp m M Mj ∧
      fX12_goesOn_546 n0 (nI dp) x2 M = (if x2 = (4 : Int32) then (if oob (nI dp) 20 then none else (fX12_add n0 (gA Mj 24 dp) 0 Mj).bind fun z593 => fX12_goesOn_596 n0 x2 z593) else fX12_goesOn_596 n0 x2 Mj) := by
  obtain ⟨Mj, ej, yj, fj⟩ := hY.join (n0 := n0) (least := 1) hn hR (Or.inl rfl) hc (by decide)
  have hP1 := hP.jn fj
  obtain ⟨h1, h2, h3, h4, h5, h6, h7', h8, h9, h10, h11, h12, h13⟩ := yj
  have e41 : gI Mj 41 - 1 = nI dp := by
    rw [h3]
    exact nI_subN (b := 1) (by omega)
  have e42 : gI (sI Mj 41 (nI dp)) 42 - 1 = nI op := by
    rw [gI_ne (by decide), h12]
    have : nots ([] : List Int32) = 0 := rfl
    rw [this]
    exact nI_subN (a := op + 1) (b := 1) (by omega)
  refine ⟨sI (sI Mj 41 (nI dp)) 42 (nI op), (hP1.in_ (by decide)).in_ (by decide), ⟨?_, h2, ?_, ⟨hdp, by omega⟩, ?_, hb, ?_, trivial, h9, ?_, ?_, gI_at, ?_⟩, ?_, ?_, ?_, ?_⟩
  · rw [gI_ne (by decide), gI_ne (by decide)]; exact h1
  · rw [gI_ne (by decide), gI_at]
  · show gA Mj 25 (dp - 1) = _
    rw [fj.2.1 25 _ (by omega)]
    exact hbs
  · rw [gI_ne (by decide), gI_ne (by decide)]; exact h7'
  · rw [gI_ne (by decide), gI_ne (by decide)]; exact h10
  · exact h11
  · have : nots ([] : List Int32) = 0 := rfl
    omega
  · intro a i h16 h17
    show gA Mj a i = _
    exact fj.2.1 a i (by omega)
  · rw [gI_ne (by decide), gI_ne (by decide)]
    exact fj.1 45 (by decide) (by decide) (by decide)
  · exact ((fj.p).i (by unfold pInt; omega)).i (by unfold pInt; omega)
  · unfold fX12_goesOn_546
    have hcl : (nI dp).toNatClampNeg = dp := nI_clamp (by omega)
    refine eq_t (by rw [hP.f8]; exact i00) (eq_b ej (eq_n ?_))
    rw [e41]
    refine eq_n ?_
    rw [e42]
    simp only [hcl]
end CL
end
section
/-! SUMS AND TESTS: faults further in, ends of frames, commas -/
section CLS
variable {n0 L s qf b c0 dp m bs op pw : Nat} {lx : List Int32} {ly : List (Int32 × Int32)} {MX MY : Mem}
theorem badUp {s1 k1 dp1 m1 : Nat} {ly1 : List (Int32 × Int32)} {MX1 MY1 : Mem} {rx rx' : Option (Int32 × Mem)} (hw : ∀ w, YLp n0 (w + k1) MY = YLp n0 w MY1) (hs : s + k1 ≤ s1) (fx : FPx qf MX MX1) (fy : FP b (c0 + ly.length) dp m MY MY1) (hl : ly.length ≤ ly1.length) (hd : dp ≤ dp1) (hm : m ≤ m1) (hB : Bad n0 s1 qf b c0 dp1 m1 ly1 MX1 MY1 rx) (hx : ∀ M, rx = some (0, M) → rx' = some (0, M)) : Bad n0 s qf b c0 dp m ly MX MY rx' := by
  obtain ⟨MX', MY', k, e, hk, hsk, hf, gx, gy⟩ := hB
  refine ⟨MX', MY', k + k1, hx _ e, fun w => ?_, by omega, hf, fx.tr gx, fy.tr (gy.wk (by omega) hd hm)⟩
  rw [← Nat.add_assoc, hw]
  exact hk w
theorem badGo {sc k : Nat} {p : Int32} {MXc MYc : Mem} {rx : Option (Int32 × Mem)} (hw : ∀ w, YLp n0 (w + k) MY = YLp n0 w MYc) (hs : s + k ≤ sc) (hsc : sc ≤ 1600) (fx : FPx qf MX MXc) (fy : FP b (c0 + ly.length) dp m MY MYc) (h45 : gI MYc 45 = 1) (hx : rx = some (0, sI (sI MXc 391 1) 392 p)) (hy : fX12_goesOn n0 MYc = some (0, sI (sI MYc 8 1) 9 p)) : Bad n0 s qf b c0 dp m ly MX MY rx := by
  refine ⟨_, _, 2 + k, hx, fun w => ?_, by omega, Flt.mk (k := 1) (by decide) (by decide), fx.tr FIf.p, (fy.i (by unfold pInt; omega)).i (by unfold pInt; omega)⟩
  rw [← Nat.add_assoc, hw]
  exact ylgo0 (by rw [h45]; decide) hy
theorem endBad {dq sc : Nat} {kf : Int32} {MXc MYc : Mem} (hP : PR L sc MXc MYc) (hkf : gA MYc 21 (dq - 1) = kf) (h2 : (2 : Int32) ≤ kf) (hne : ¬ gI MXc 386 = endOf kf) (hk : ¬ ari (gI MXc 386) ∨ (2 : Int32) ≤ gA MYc 22 (dq - 1)) (hT : ¬ isT kf ∨ (¬ gA MYc 22 (dq - 1) = 0 ∧ ¬ gI MXc 386 = 280 ∧ ¬ gI MXc 386 = 279)) (h41 : gI MYc 41 = nI dq) (hdq : 1 ≤ dq ∧ dq ≤ 9) : fX8_skip n0 (endOf kf) MXc = some (0, sI (sI MXc 391 1) 392 (gI MXc 388)) ∧ fX12_goesOn n0 MYc = some (0, sI (sI MYc 8 1) 9 (gI MXc 388)) := by
  refine ⟨xskF hne, ?_⟩
  by_cases hb : gI MXc 386 = 258
  · exact ygoB hP hb
  · rw [ygo422 hP hb hk (by rw [hkf]; exact hT) h41 hdq, hkf, hP.pl hb]
    exact ygoEnd hP hne h2 hb
theorem endOf_na {kf : Int32} : ¬ ari (endOf kf) ∧ ¬ endOf kf = 258 ∧ ¬ endOf kf = 259 ∧ ¬ endOf kf = 280 ∧ ¬ endOf kf = 279 := by
  unfold endOf
  repeat' split
  all_goals decide
/-- what a closed frame leaves -/
def xtra (kf pr : Int32) : List (Int32 × Int32) := if kf = 4 then [(pr, 0)] else []
theorem closeP {kf : Int32} {sc si rl r D k : Nat} {t : Bool} {lxi : List Int32} {lyi lyc δ : List (Int32 × Int32)} {R : List Int32} {MXi MYi MXc MYc : Mem} (hn : 1601 ≤ n0) (hi : En L si qf b c0 (dp + 1) m m (op + 1) pw lxi lyi MXi MYi) (hS : St n0 L si qf b c0 (dp + 1) m m (op + 1) pw lxi lyi MXi MYi rl r D t MXc MYc sc k δ R lyc) (hr : 1 ≤ r) (hkf : gA MYc 21 dp = kf) (hk4 : kf = 2 ∨ kf = 4 ∨ kf = 5) (hk : gI MXc 386 = endOf kf) (hT : ¬ isT kf ∨ ¬ gA MYc 22 dp = 0) (hdp : 1 ≤ dp) (hbs : gA MYc 25 (dp - 1) = nI bs) (hb : bs ≤ m) :
    ∃ MX1 MY1 s1, fX8_skip n0 (endOf kf) MXc = some (1, MX1) ∧ (∀ w, YLp n0 (w + 1) MYc = YLp n0 w MY1) ∧ sc < s1 ∧ PR L s1 MX1 MY1 ∧ YP b c0 dp m bs op [] (lyi ++ δ ++ xtra kf (gA MYc 24 dp)) MY1 ∧ gI MY1 45 = 1 ∧ FI 386 392 MXc MX1 ∧ FP b (c0 + lyi.length) dp m MYc MY1 ∧ gA MY1 22 (dp - 1) = (if kf = 5 then 2 else gA MYc 22 (dp - 1)) ∧ gA MY1 23 (dp - 1) = gA MYc 23 (dp - 1) := by
  obtain ⟨hlen1, hlen2, hlen3, hlen4⟩ := hS.len hi
  obtain ⟨a1, a2, a3, a4, a5, a6, a7, a8, a9, a10, a11, a12, a13, a14, a15, a16⟩ := hS
  obtain ⟨na, nb, nb9, n280, n279⟩ := endOf_na (kf := kf)
  have hL16 := a4.L16
  have hb8 : ¬ gI MXc 386 = 258 := by rw [hk]; exact nb
  have hs := a4.2.1.2.2.2.2.lt (by rw [hk]; exact nb9)
  have hdq := a6.2.2.2.1
  obtain ⟨Mj, pj, yj, arj, j45, fj, e546⟩ := cl546 (n0 := n0) (x2 := kf) (bs := bs) hn a4 a6 (fun o ho => Nat.le_trans hr (a8 o ho)) (by omega) hdp hbs hb
  rw [a7] at yj
  have hgo : fX12_goesOn n0 MYc = fX12_goesOn_546 n0 (nI dp) kf MYc := by
    rw [ygo422 (dp := dp + 1) a4 hb8 (Or.inl (by rw [hk]; exact na)) (by
      rw [Nat.add_sub_cancel, hkf]
      rcases hT with q | q
      · exact Or.inl q
      · exact Or.inr ⟨q, by rw [hk]; exact n280, by rw [hk]; exact n279⟩) a6.2.2.1 hdq, Nat.add_sub_cancel, hkf]
    unfold fX12_goesOn_422 fX12_goesOn_531
    rcases hk4 with q | q | q
    · subst q
      exact eq_t (by decide) (eq_f (by decide) (eq_f (by decide) (eq_f (by decide) (eq_b (ySign (by decide) a4) (eq_f (bz (by rw [hk]; rfl)) rfl)))))
    · subst q
      exact eq_t (by decide) (eq_f (by decide) (eq_f (by decide) (eq_f (by decide) (eq_b (ySign (by decide) a4) (eq_f (bz (by rw [hk]; rfl)) rfl)))))
    · subst q
      exact eq_t (by decide) (eq_f (by decide) (eq_f (by decide) (eq_t (by decide) (eq_b (ySign (by decide) a4) (eq_f (bz (by rw [hk]; rfl)) rfl)))))
  -- what stands ahead of the next token
  have core : ∀ Mz, PR L sc MXc Mz → YP b c0 dp m bs op [] (lyi ++ δ ++ xtra kf (gA MYc 24 dp)) Mz → gI Mz 45 = 1 → FP b (c0 + lyi.length) dp m MYc Mz → gA Mz 22 (dp - 1) = (if kf = 5 then 2 else gA MYc 22 (dp - 1)) → gA Mz 23 (dp - 1) = gA MYc 23 (dp - 1) → fX12_goesOn_546 n0 (nI dp) kf MYc = (fX12_ahead n0 Mz).bind (fun z => some (1, z)) → ∃ MX1 MY1 s1, fX8_skip n0 (endOf kf) MXc = some (1, MX1) ∧ (∀ w, YLp n0 (w + 1) MYc = YLp n0 w MY1) ∧ sc < s1 ∧ PR L s1 MX1 MY1 ∧ YP b c0 dp m bs op [] (lyi ++ δ ++ xtra kf (gA MYc 24 dp)) MY1 ∧ gI MY1 45 = 1 ∧ FI 386 392 MXc MX1 ∧ FP b (c0 + lyi.length) dp m MYc MY1 ∧ gA MY1 22 (dp - 1) = (if kf = 5 then 2 else gA MYc 22 (dp - 1)) ∧ gA MY1 23 (dp - 1) = gA MYc 23 (dp - 1) := by
    intro Mz z1 z2 z3 z4 z5 z6 z7
    obtain ⟨MX1, MY1, s1, ax, ay, hs1, hP1, fx, fy⟩ := z1.adv hn hs
    have fY := fy.Y
    refine ⟨MX1, MY1, s1, ?_, fun w => ylgo (by rw [a11]; decide) (hgo.trans (z7.trans (eq_b ay rfl))) hP1.f8, hs1, hP1, z2.tok fY, (fY.1 45 (by omega)).trans z3, fx.wk (by decide) (by decide), z4.tr fY.p, ?_, ?_⟩
    · unfold fX8_skip
      exact eq_t hk (eq_b ax rfl)
    · rw [fY.2.1 22 id]; exact z5
    · rw [fY.2.1 23 id]; exact z6
  have fj' : FP b (c0 + lyi.length) dp m MYc Mj := fj.wk (by omega) (Nat.le_refl _) (Nat.le_refl _)
  have o : ¬ oob (nI dp) 20 := nI_in (by omega) (by decide)
  rcases hk4 with q | q | q
  · refine core Mj pj (by rw [q]; simpa [xtra] using yj) (j45.trans a11) fj' (by rw [q, if_neg (by decide)]; exact arj _ _ (by decide) (by decide)) (arj _ _ (by decide) (by decide)) ?_
    rw [e546, q]
    refine eq_f (by decide) ?_
    unfold fX12_goesOn_596 fX12_goesOn_613
    exact eq_f (by decide) rfl
  · obtain ⟨ea, ya⟩ := yj.add (n0 := n0) (x := gA MYc 24 dp) (y := 0) (by rw [List.length_append]; omega)
    have i24 : gA Mj 24 dp = gA MYc 24 dp := arj _ _ (by decide) (by decide)
    have ar2 : ∀ a i, a ≠ 16 → a ≠ 17 → gA (yAdd Mj b (c0 + (lyi ++ δ).length) (gA MYc 24 dp) 0) a i = gA MYc a i := fun a i h1 h2 => by
      unfold yAdd
      show gA (sA (sA Mj 16 _ _) 17 _ _) a i = _
      rw [gA_sA_ne h2, gA_sA_ne h1]
      exact arj a i h1 h2
    refine core (yAdd Mj b (c0 + (lyi ++ δ).length) (gA MYc 24 dp) 0) pj.add (by rw [q]; simpa [xtra] using ya) ?_ (fj'.tr ((yAdd_FP (by rw [List.length_append]; omega)).wk (by rw [List.length_append]; omega) (Nat.le_refl _) (Nat.le_refl _))) (by rw [q, if_neg (by decide)]; exact ar2 _ _ (by decide) (by decide)) (ar2 _ _ (by decide) (by decide)) ?_
    · unfold yAdd
      rw [gI_ne (by decide)]
      exact j45.trans a11
    · rw [e546, q, i24]
      refine eq_t rfl (eq_f o (eq_b ea ?_))
      unfold fX12_goesOn_596 fX12_goesOn_613
      exact eq_f (by decide) rfl
  · have m41 : gI Mj 41 - 1 = nI (dp - 1) := by rw [yj.2.2.1]; exact nI_subN (b := 1) hdp
    refine core (sA Mj 22 (dp - 1) 2) (pj.ar (by decide)) (by
      have z := yj.cong (M' := sA Mj 22 (dp - 1) 2) (fun k _ => rfl) (fun a ha => gA_sA_ne (by omega))
      rw [q]
      simpa [xtra] using z) (j45.trans a11) (fj'.a (by unfold pReg; omega)) (by rw [q, if_pos rfl, gA_sA, if_pos rfl, if_pos rfl]) (by rw [gA_sA_ne (by decide)]; exact arj _ _ (by decide) (by decide)) ?_
    rw [e546, q]
    refine eq_f (by decide) ?_
    unfold fX12_goesOn_596 fX12_goesOn_613
    refine eq_t rfl (eq_f (by rw [m41]; exact nI_in (by omega) (by decide)) ?_)
    rw [m41, nI_clamp (by omega)]
/-- a comma: the frame's next part -/
theorem commaP {kf : Int32} {sc si rl r D k : Nat} {t : Bool} {lxi : List Int32} {lyi lyc δ : List (Int32 × Int32)} {R : List Int32} {MXi MYi MXc MYc : Mem} (hn : 1601 ≤ n0) (hi : En L si qf b c0 (dp + 1) m m (op + 1) pw lxi lyi MXi MYi) (hS : St n0 L si qf b c0 (dp + 1) m m (op + 1) pw lxi lyi MXi MYi rl r D t MXc MYc sc k δ R lyc) (hr : 1 ≤ r) (hkf : gA MYc 21 dp = kf) (hk4 : kf = 3 ∨ kf = 6) (hk : gI MXc 386 = 44) (hT : ¬ isT kf ∨ ¬ gA MYc 22 dp = 0) (hdp : 1 ≤ dp) :
    ∃ MX1 MY1 s1, fX8_skip n0 44 MXc = some (1, MX1) ∧ (∀ w, YLp n0 (w + 1) MYc = YLp n0 w MY1) ∧ sc < s1 ∧ En L s1 qf b c0 (dp + 1) m m (op + 1) pw (lxi ++ exL δ) (lyi ++ δ) MX1 MY1 ∧ FI 386 392 MXc MX1 ∧ FP b (c0 + lyi.length) dp m MYc MY1 ∧ gA MY1 21 dp = (if kf = 3 then 4 else 3) ∧ gA MY1 22 dp = 0 ∧ (∀ a, a = 22 ∨ a = 23 ∨ a = 25 → gA MY1 a (dp - 1) = gA MYc a (dp - 1)) ∧ gA MY1 24 dp = gA MYc 24 dp := by
  obtain ⟨hlen1, hlen2, hlen3, hlen4⟩ := hS.len hi
  obtain ⟨hP, h257, hq, hxl, hYP, h258, hdo, hmp, hcs, hll, h45⟩ := hi
  obtain ⟨a1, a2, a3, a4, a5, a6, a7, a8, a9, a10, a11, a12, a13, a14, a15, a16⟩ := hS
  have hb8 : ¬ gI MXc 386 = 258 := by rw [hk]; decide
  have hs := a4.2.1.2.2.2.2.lt (by rw [hk]; decide)
  have hdq := a6.2.2.2.1
  obtain ⟨Mj, ej, yj, fj⟩ := a6.join (n0 := n0) (least := 1) hn (fun o ho => Nat.le_trans hr (a8 o ho)) (Or.inl rfl) (by omega) (by decide)
  rw [a7] at yj
  have pj := a4.jn fj
  have hcl : (nI dp).toNatClampNeg = dp := nI_clamp (by omega)
  have o : ¬ oob (nI dp) 20 := nI_in (by omega) (by decide)
  have pz : PR L sc MXc (sA (sA Mj 21 dp (if kf = 3 then 4 else 3)) 22 dp 0) := (pj.ar (by decide)).ar (by decide)
  obtain ⟨MX1, Ma, s1, ax, ay, hs1, hP1, fx, fy⟩ := pz.adv hn hs
  have fY := fy.Y
  have ar : ∀ a i, a ≠ 16 → a ≠ 17 → a ≠ 21 → a ≠ 22 → gA (sI Ma 45 0) a i = gA MYc a i := fun a i h1 h2 h3 h4 => by
    show gA Ma a i = _
    rw [fY.2.1 a id, gA_sA_ne h4, gA_sA_ne h3, fj.2.1 a i (by omega)]
  have hFP : FP b (c0 + lyi.length) dp m MYc (sI Ma 45 0) := ((((fj.p.wk (by omega) (Nat.le_refl dp) (Nat.le_refl m)).a (by unfold pReg; omega)).a (by unfold pReg; omega)).tr fY.p).i (by unfold pInt; omega)
  have hgo : fX12_goesOn n0 MYc = some (1, sI Ma 45 0) := by
    rw [ygo422 (dp := dp + 1) a4 hb8 (Or.inl (by rw [hk]; decide)) (by
      rw [Nat.add_sub_cancel, hkf]
      rcases hT with q | q
      · exact Or.inl q
      · exact Or.inr ⟨q, by rw [hk]; decide, by rw [hk]; decide⟩) a6.2.2.1 hdq, Nat.add_sub_cancel, hkf]
    have e499 : ∀ u, u = (if kf = 3 then (4 : Int32) else 3) → fX12_goesOn_499 n0 (nI dp) (nI dp) u Mj = some (1, sI Ma 45 0) := fun u eu => by
      subst eu
      unfold fX12_goesOn_499
      simp only [hcl]
      exact eq_f o (eq_n (eq_f o (eq_n (eq_b ay (eq_n rfl)))))
    have e452 : fX12_goesOn_452 n0 (nI dp) kf MYc = some (1, sI Ma 45 0) := by
      unfold fX12_goesOn_452 fX12_goesOn_470
      refine eq_b (ySign (by decide) a4) (eq_f (bz hk) (eq_t (by show gI MYc 8 ≤ 0; rw [a4.f8]; exact i00) (eq_b ej ?_)))
      by_cases g : kf = 3
      · exact eq_t g (e499 _ (by rw [if_pos g]))
      · exact eq_f g (e499 _ (by rw [if_neg g]))
    unfold fX12_goesOn_422
    rcases hk4 with q | q
    · exact eq_t (by rw [q]; decide) (eq_t q e452)
    · exact eq_t (by rw [q]; decide) (eq_f (by rw [q]; decide) (eq_t q e452))
  refine ⟨MX1, sI Ma 45 0, s1, ?_, fun w => ylgo (by rw [a11]; decide) hgo (by rw [gI_ne (by decide)]; exact hP1.f8), hs1, ⟨hP1.in_ (by decide), ?_, hq, ?_, ?_, ⟨?_, ?_⟩, hdo, hmp, by omega, ?_, gI_at⟩, fx.wk (by decide) (by decide), hFP, ?_, ?_, fun a ha => ?_, ?_⟩
  · unfold fX8_skip
    exact eq_t hk (eq_b ax rfl)
  · rw [fx.R, a14.2.2]; exact h257
  · exact a5.fi (fx.wk (by decide) (by decide)) hq
  · exact ((yj.cong (M' := sA (sA Mj 21 dp (if kf = 3 then 4 else 3)) 22 dp 0) (fun k _ => rfl) (fun a ha => by rw [gA_sA_ne (by omega), gA_sA_ne (by omega)])).tok fY).cong (fun k hk => gI_ne (by omega)) (fun a _ => rfl)
  · rw [fx.2 258 (by omega), a14.1 258 (by omega), h258.1, hFP.1 35 (by unfold pInt; omega), a15.1 35 (by unfold pInt; omega)]
  · rw [fx.2 258 (by omega), a14.1 258 (by omega)]; exact h258.2
  · rw [List.length_append]; exact hlen3
  · show gA Ma 21 dp = _
    rw [fY.2.1 21 id, gA_sA_ne (by decide), gA_sA, if_pos rfl, if_pos rfl]
  · show gA Ma 22 dp = _
    rw [fY.2.1 22 id, gA_sA, if_pos rfl, if_pos rfl]
  · show gA Ma a (dp - 1) = _
    rw [fY.2.1 a id, gA_sA]
    by_cases e : a = 22
    · rw [if_pos e, if_neg (by omega), gA_sA_ne (by decide), fj.2.1 22 _ (by omega), e]
    · rw [if_neg e, gA_sA_ne (by omega), fj.2.1 a _ (by omega)]
  · exact ar _ _ (by decide) (by decide) (by decide) (by decide)
end CLS
end
section
/-! SUMS AND TESTS: a PART -/
def NF (dp : Nat) (MX MY : Mem) : Prop := (¬ isT (gA MY 21 (dp - 1)) ∨ gA MY 23 (dp - 1) = 0 ∨ (¬ gI MX 386 = 281 ∧ ¬ gI MX 386 = 91 ∧ ¬ gI MX 386 = 282)) ∧ ¬ (2 : Int32) ≤ gA MY 22 (dp - 1)
def DP (op : Nat) : Nat := 1 + 7 * (7 - op)
def QPart (dp : Nat) (MY : Mem) (MX' MY' : Mem) : Prop := gA MY' 22 (dp - 1) = gA MY 22 (dp - 1) ∧ gA MY' 23 (dp - 1) = 0
def QSum (dp : Nat) (MY : Mem) (MX' MY' : Mem) : Prop := QPart dp MY MX' MY' ∧ ¬ ari (gI MX' 386)
def QFact (dp : Nat) (MX' MY' : Mem) : Prop := gA MY' 22 (dp - 1) = 2 ∨ (gA MY' 22 (dp - 1) = 1 ∧ ¬ ari (gI MX' 386))
def QTest (dp : Nat) (MX' MY' : Mem) : Prop := QFact dp MX' MY' ∧ ¬ gI MX' 386 = 280 ∧ ¬ gI MX' 386 = 279
def SPart (n0 L b c0 op : Nat) (P : Mem → Prop) (g : Mem → Option (Int32 × Mem)) : Prop := ∀ s qf dp m bs pw lx ly MX MY, En L s qf b c0 dp m bs op pw lx ly MX MY → P MX → NF dp MX MY → m ≤ 30 * op + 6 → Ok n0 L s qf b c0 dp m bs op pw lx ly MX MY 0 6 (DP op) false (QPart dp MY) (g MX) ∨ Bad n0 s qf b c0 dp m ly MX MY (g MX)
def SSum (n0 L b c0 op : Nat) (g : Mem → Option (Int32 × Mem)) : Prop := ∀ s qf dp m bs pw lx ly MX MY, En L s qf b c0 dp m bs op pw lx ly MX MY → NF dp MX MY → (m = bs ∨ rkI (gA MY 26 (m - 1)) < 5) → m ≤ 30 * op + 4 → Ok n0 L s qf b c0 dp m bs op pw lx ly MX MY 2 5 (DP op + 2) false (QSum dp MY) (g MX) ∨ Bad n0 s qf b c0 dp m ly MX MY (g MX)
def TPre (dp : Nat) (MY : Mem) : Prop := isT (gA MY 21 (dp - 1)) ∧ gA MY 22 (dp - 1) = 0 ∧ gA MY 23 (dp - 1) = 1
def STest (n0 L b c0 op : Nat) (g : Mem → Option (Int32 × Mem)) : Prop := ∀ s qf dp m bs pw lx ly MX MY, En L s qf b c0 dp m bs op pw lx ly MX MY → TPre dp MY → m = bs → m ≤ 30 * op → Ok n0 L s qf b c0 dp m bs op pw lx ly MX MY (5 + (7 - op)) 1 (DP op + 5) true (QTest dp) (g MX) ∨ Bad n0 s qf b c0 dp m ly MX MY (g MX)
section PT
variable {n0 L s qf b c0 dp m bs op pw : Nat} {lx : List Int32} {ly : List (Int32 × Int32)} {MX MY : Mem}
theorem xgo1 {c : Int32} {M M' : Mem} (h7 : op < 7) (hk : gI M 386 = c) (ha : fX8_advance n0 M = some M') : fX3_goIn n0 c (nI op) M = some (1, M') := by
  unfold fX3_goIn
  exact eq_t hk (eq_t (nI_lt (b := 7) h7 (by decide)) (eq_b ha rfl))
theorem xgo5 {c : Int32} {M : Mem} (h7 : op = 7) (hk : gI M 386 = c) : fX3_goIn n0 c (nI op) M = some (0, sI (sI M 391 5) 392 (gI M 387)) := by
  unfold fX3_goIn
  exact eq_t hk (eq_f (by rw [h7]; decide) (eq_b xfail (eq_t (Or.inl rfl) rfl)))
theorem xgoN {c x : Int32} {M : Mem} (hk : ¬ gI M 386 = c) : fX3_goIn n0 c x M = some (0, sI (sI M 391 1) 392 (gI M 388)) := by
  unfold fX3_goIn
  exact eq_f hk (eq_b xfailH (eq_t (Or.inl rfl) rfl))
theorem openEn {kk : Int32} {s0 : Nat} {MX0 M0 : Mem} (g : Mem → Mem) (hn : 1601 ≤ n0) (h : En L s qf b c0 dp m bs op pw lx ly MX MY) (hP0 : PR L s0 MX0 M0) (hs0 : s ≤ s0) (fx0 : FI 386 392 MX MX0) (hY0 : YP b c0 dp m bs op [] ly M0) (f0 : FP b (c0 + ly.length) dp m MY M0) (hs : s0 < L) (h7 : op < 7) (g1 : ∀ M k, gI (g M) k = gI M k) (g2 : ∀ M, gL (g M) = gL M) (g3 : ∀ M a, a ≠ 24 → gA (g M) a = gA M a) (g4 : ∀ M, FP b (c0 + ly.length) dp m M (g M)) :
    ∃ MX1 M' s1, fX8_advance n0 MX0 = some MX1 ∧ fX12_opens n0 kk M0 = some M' ∧ s0 < s1 ∧ gI M' 8 = 0 ∧ gI M' 41 = nI (dp + 1) ∧ En L s1 qf b c0 (dp + 1) m m (op + 1) pw lx ly MX1 (sI (g M') 45 0) ∧ FPx qf MX MX1 ∧ FP b (c0 + ly.length) dp m MY (sI (g M') 45 0) ∧ gA M' 21 dp = kk ∧ gA M' 22 dp = 0 ∧ gA M' 23 dp = 1 ∧ gA M' 22 (dp - 1) = gA M0 22 (dp - 1) ∧ gA M' 23 (dp - 1) = gA M0 23 (dp - 1) := by
  obtain ⟨hP, h257, hq, hxl, hYP, h258, hdo, hmp, hcs, hll, h45⟩ := h
  obtain ⟨MX1, M', s1, ax, eo, hs1, hP1, yp, e1, e2, e3, fx, fp, e4, e5⟩ := opP (n0 := n0) (kk := kk) hn hP0 hs hY0 h7 hdo
  have hfx : FI 386 392 MX MX1 := fx0.tr fx
  have hFP : FP b (c0 + ly.length) dp m MY (sI (g M') 45 0) := ((f0.tr fp).tr (g4 M')).i (by unfold pInt; omega)
  refine ⟨MX1, M', s1, ax, eo, hs1, hP1.f8, yp.2.2.1, ⟨?_, ?_, hq, ?_, ?_, ⟨?_, ?_⟩, by omega, hmp, by omega, hll, gI_at⟩, hfx.p, hFP, e1, e2, e3, e4, e5⟩
  · exact hP1.yw (fun k hk => by rw [gI_ne (by omega), g1]) (by show gL (g M') 7 = _; rw [g2]) (by show gA (g M') 1 = _; rw [g3 _ _ (by decide)])
  · rw [hfx.R]; exact h257
  · exact hxl.fi hfx hq
  · exact yp.cong (fun k hk => by rw [gI_ne (by omega), g1]) (fun a ha => by show gA (g M') a = _; rw [g3 _ _ (by omega)])
  · rw [hfx.2 258 (by omega), h258.1, hFP.1 35 (by unfold pInt; omega)]
  · rw [hfx.2 258 (by omega)]; exact h258.2
theorem parP {rec : Nat → Int32 → Int32 → Mem → Option (Int32 × Mem)} (hn : 1601 ≤ n0) (hSum : op < 7 → SSum n0 L b c0 (op + 1) (fun M => rec 0 (nI (op + 1)) 0 M)) (h : En L s qf b c0 dp m bs op pw lx ly MX MY) (hk : gI MX 386 = 40) (hN : NF dp MX MY) (hm : m ≤ 30 * op + 6) {rx : Option (Int32 × Mem)} (hrx : rx = (fX3_goIn n0 (40 : Int32) (nI op) MX).bind fun z217 => if z217.1 = 0 then some ((0 : Int32), z217.2) else (rec 0 (nI op + (1 : Int32)) (0 : Int32) z217.2).bind fun z227 => if z227.1 = 0 then some ((0 : Int32), z227.2) else (fX8_skip n0 (41 : Int32) z227.2).bind fun z239 => if z239.1 = 0 then some ((0 : Int32), z239.2) else some ((1 : Int32), z239.2)) :
    Ok n0 L s qf b c0 dp m bs op pw lx ly MX MY 0 6 (DP op) false (QPart dp MY) rx ∨ Bad n0 s qf b c0 dp m ly MX MY rx := by
  have hh := h
  obtain ⟨hP, h257, hq, hxl, hYP, h258, hdo, hmp, hcs, hll, h45⟩ := h
  have hb : ¬ gI MX 386 = 258 := by rw [hk]; decide
  have hs := hP.2.1.2.2.2.2.lt (by rw [hk]; decide)
  have hdp := hYP.2.2.2.1
  have hop7 : op ≤ 7 := hYP.2.2.2.2.2.2.2.2.2.2.2.2
  have hP1 : PR L s MX (sA MY 23 (dp - 1) 0) := hP.ar (by decide)
  have hY1 : YP b c0 dp m bs op [] ly (sA MY 23 (dp - 1) 0) := hYP.cong (fun k _ => rfl) (fun a ha => gA_sA_ne (by omega))
  have f1 : FP b (c0 + ly.length) dp m MY (sA MY 23 (dp - 1) 0) := FP.r.a (by unfold pReg; omega)
  have hy : fX12_operand n0 MY = (fX12_opens n0 2 (sA MY 23 (dp - 1) 0)).bind fun z => some (0, z) := by rw [yop171 hP hb hYP.2.2.1 hdp hN.1, y171o hP1 hk]
  by_cases h7 : op = 7
  · right
    refine badOp (k := 5) (r := 0) (p := nI s) (M1 := sA MY 23 (dp - 1) 0) hh (by decide) (by decide) (Or.inl rfl) ?_ f1 (hy.trans (eq_b (opF hP1 (by show gI MY 42 = 7; rw [hYP.2.2.2.2.2.2.2.2.2.2.2.1, h7]; rfl)) rfl))
    rw [hrx]
    refine eq_b (xgo5 h7 hk) (eq_t rfl ?_)
    show some ((0 : Int32), sI (sI MX 391 5) 392 (gI MX 387)) = _
    rw [hP.st]
    rfl
  have h7' : op < 7 := by omega
  obtain ⟨MX1, M', s1, ax, eo, hs1, m8, m41, hE1, fx1, fp1, k21, k22, k23, p22, p23⟩ := openEn (kk := 2) (fun M => M) hn hh hP1 (Nat.le_refl s) FI.r hY1 f1 hs h7' (fun _ _ => rfl) (fun _ => rfl) (fun _ _ _ => rfl) (fun _ => FP.r)
  have hw1 : ∀ w, YLp n0 (w + 1) MY = YLp n0 w (sI M' 45 0) := fun w => ylop h45 (Or.inl rfl) (hy.trans (eq_b eo rfl)) m8
  have xg := xgo1 (n0 := n0) h7' hk ax
  have hsum := hSum h7' s1 qf (dp + 1) m m pw lx ly MX1 (sI M' 45 0) hE1 ⟨Or.inl (by rw [Nat.add_sub_cancel]; show ¬ isT (gA M' 21 dp); rw [k21]; decide), by rw [Nat.add_sub_cancel]; show ¬ (2 : Int32) ≤ gA M' 22 dp; rw [k22]; decide⟩ (Or.inl rfl) (by omega)
  rcases hsum with ⟨MX2, MY2, s2, k2, δ, R, ly2, er, hS, hQ⟩ | hB
  rotate_left
  · right
    refine badUp (k1 := 1) hw1 (by omega) fx1 fp1 (Nat.le_refl _) (by omega) (Nat.le_refl _) hB (fun M e => ?_)
    rw [hrx]
    exact eq_b xg (eq_f i10 (eq_b (by rw [nI_1]; exact e) (eq_t rfl rfl)))
  have er' : rec 0 (nI op + (1 : Int32)) 0 MX1 = some (1, MX2) := by rw [nI_1]; exact er
  have hSS := hS
  obtain ⟨hlen1, hlen2, hlen3, hlen4⟩ := hS.len hE1
  obtain ⟨a1, a2, a3, a4, a5, a6, a7, a8, a9, a10, a11, a12, a13, a14, a15, a16⟩ := hS
  rw [show QSum (dp + 1) (sI M' 45 0) MX2 MY2 = (((gA MY2 22 dp = gA M' 22 dp) ∧ gA MY2 23 dp = 0) ∧ ¬ ari (gI MX2 386)) from rfl] at hQ
  have f21 : gA MY2 21 dp = 2 := (a15.2.1 21 dp (by unfold pReg; omega)).trans k21
  have fpA : FP b (c0 + ly.length) dp m MY MY2 := fp1.tr (a15.wk (Nat.le_refl _) (by omega) (Nat.le_refl _))
  have hwA : ∀ w, YLp n0 (w + (k2 + 1)) MY = YLp n0 w MY2 := fun w => by rw [← Nat.add_assoc, hw1, a1]
  have b25 : gA MY2 25 (dp - 1) = nI bs := (fpA.2.1 25 _ (by unfold pReg; omega)).trans hYP.2.2.2.2.1
  by_cases hc : gI MX2 386 = 41
  · obtain ⟨MX3, MY3, s3, sk, hw3, hs3, hP3, yp3, g45, fx3, fp3, g22, g23⟩ := closeP (kf := 2) (bs := bs) hn hE1 hSS (by decide) f21 (Or.inl rfl) hc (Or.inl (by decide)) hdp.1 b25 hYP.2.2.2.2.2.1
    left
    refine ⟨MX3, MY3, s3, 1 + (k2 + 1), δ, [], ly ++ δ, ?_, ⟨fun w => ?_, by omega, by omega, hP3, a5.fi fx3 hq, by simpa [xtra] using yp3, by simp [fl], fun o ho => by simp at ho, by simp, ?_, g45, fun st hst => a12 st (by unfold DP at hst ⊢; omega), a13, (fx1.tr a14).tr fx3.p, fpA.tr fp3, by simp⟩, ?_, ?_⟩
    · rw [hrx]
      exact eq_b xg (eq_f i10 (eq_b er' (eq_f i10 (eq_b sk (eq_f i10 rfl)))))
    · rw [← Nat.add_assoc, hwA, hw3]
    · omega
    · rw [g22, if_neg (by decide), a15.2.1 22 (dp - 1) (by unfold pReg; omega)]
      show gA M' 22 (dp - 1) = _
      rw [p22, gA_sA_ne (by decide)]
    · rw [g23, a15.2.1 23 (dp - 1) (by unfold pReg; omega)]
      show gA M' 23 (dp - 1) = _
      rw [p23, gA_sA, if_pos rfl, if_pos rfl]
  · right
    obtain ⟨sk, go⟩ := endBad (n0 := n0) (dq := dp + 1) (kf := 2) a4 (by rw [Nat.add_sub_cancel]; exact f21) (by decide) hc (Or.inl hQ.2) (Or.inl (by decide)) a6.2.2.1 a6.2.2.2.1
    refine badGo hwA (by omega) hlen4 (fx1.tr a14) fpA a11 ?_ go
    rw [hrx]
    exact eq_b xg (eq_f i10 (eq_b er' (eq_f i10 (eq_b sk (eq_t rfl rfl)))))
end PT
end
section
/-! SUMS AND TESTS: min, max, if -/
/-- inside a frame of the outer PART -/
def Inr (n0 L s qf b c0 dp m bs op pw : Nat) (ly : List (Int32 × Int32)) (MX MY : Mem) (wh kf : Int32) (lxi : List Int32) (lyi : List (Int32 × Int32)) (MXi MYi : Mem) (si k : Nat) : Prop :=
  (∀ w, YLp n0 (w + k) MY = YLp n0 w MYi) ∧ s + k ≤ si ∧ FPx qf MX MXi ∧ FP b (c0 + ly.length) dp m MY MYi ∧ En L si qf b c0 (dp + 1) m m (op + 1) pw lxi lyi MXi MYi ∧ gA MYi 21 dp = kf ∧ gA MYi 24 dp = wh ∧ gA MYi 22 dp = 0 ∧ gA MYi 22 (dp - 1) = gA MY 22 (dp - 1) ∧ gA MYi 23 (dp - 1) = 0 ∧ ly.length ≤ lyi.length ∧ gA MYi 25 (dp - 1) = nI bs
section IN
variable {n0 L s qf b c0 dp m bs op pw : Nat} {ly : List (Int32 × Int32)} {MX MY : Mem} {wh : Int32} {lxi : List Int32} {lyi : List (Int32 × Int32)} {MXi MYi : Mem} {si k : Nat}
theorem badOp2 {kk : Nat} {p r : Int32} {lx : List Int32} {MXa M1 : Mem} {rx : Option (Int32 × Mem)} (h : En L s qf b c0 dp m bs op pw lx ly MX MY) (h1 : 1 ≤ kk) (h6 : kk ≤ 6) (hr : r = 0 ∨ r = 1) (hx : rx = some (0, sI (sI MXa 391 (nI kk)) 392 p)) (fx : FPx qf MX MXa) (hf : FP b (c0 + ly.length) dp m MY M1) (hy : fX12_operand n0 MY = some (r, sI (sI M1 8 (nI kk)) 9 p)) : Bad n0 s qf b c0 dp m ly MX MY rx := by
  have n8 : ¬ gI (sI (sI M1 8 (nI kk)) 9 p) 8 = 0 := pos_ne (n8f h1 h6)
  have := h.sL
  refine ⟨_, sI (sI (sI M1 8 (nI kk)) 9 p) 45 r, 2, hx, fun w => ylopF h.2.2.2.2.2.2.2.2.2.2 hr hy n8, by omega, ?_, fx.tr FIf.p, ((hf.i (by unfold pInt; omega)).i (by unfold pInt; omega)).i (by unfold pInt; omega)⟩
  exact (Flt.mk (MX := MXa) (MY := M1) (p := p) h1 h6).cong rfl rfl (gI_ne (by decide)) (gI_ne (by decide))
theorem yopensF {k : Int32} {M : Mem} (h : ¬ gI M 8 ≤ 0) : fX12_opens n0 k M = some M := by
  unfold fX12_opens fX12_opens_18
  by_cases g : gI M 42 = 7
  · exact eq_t g (eq_b (yblame1 h) (eq_f h rfl))
  · exact eq_f g (eq_f h rfl)
theorem y276F {x : Int32} {M : Mem} (h : ¬ gI M 8 ≤ 0) : fX12_operand_276 n0 x M = some (0, M) := by
  unfold fX12_operand_276 fX12_operand_289
  by_cases g : x = 44
  · exact eq_t g (eq_b (yopensF h) (eq_f (pos_ne h) rfl))
  · exact eq_f g (eq_b (yopensF h) (eq_f (pos_ne h) rfl))
theorem kwOpen {lx : List Int32} (hn : 1601 ≤ n0) (h : En L s qf b c0 dp m bs op pw lx ly MX MY) (hk : gI MX 386 = 283 ∨ gI MX 386 = 284 ∨ gI MX 386 = 278) (hN : NF dp MX MY) (hwh : wh = if gI MX 386 = 283 then 36 else if gI MX 386 = 284 then 37 else 44) :
    (∃ MXa MXf, fX8_advance n0 MX = some MXa ∧ fX3_goIn n0 40 (nI op) MXa = some (0, MXf) ∧ ∀ rx, rx = some ((0 : Int32), MXf) → Bad n0 s qf b c0 dp m ly MX MY rx) ∨
    (op < 7 ∧ ∃ MXa MX1 MY1 s1, fX8_advance n0 MX = some MXa ∧ fX3_goIn n0 40 (nI op) MXa = some (1, MX1) ∧ Inr n0 L s qf b c0 dp m bs op pw ly MX MY wh (if wh = 44 then 6 else 3) lx ly MX1 MY1 s1 1 ∧ gA MY1 23 dp = 1) := by
  have hh := h
  obtain ⟨hP, h257, hq, hxl, hYP, h258, hdo, hmp, hcs, hll, h45⟩ := h
  have hb : ¬ gI MX 386 = 258 := by rcases hk with e | e | e <;> rw [e] <;> decide
  have hb9 : ¬ gI MX 386 = 259 := by rcases hk with e | e | e <;> rw [e] <;> decide
  have hs := hP.2.1.2.2.2.2.lt hb9
  have hdp := hYP.2.2.2.1
  have hop7 : op ≤ 7 := hYP.2.2.2.2.2.2.2.2.2.2.2.2
  have hP1 : PR L s MX (sA MY 23 (dp - 1) 0) := hP.ar (by decide)
  have hY1 : YP b c0 dp m bs op [] ly (sA MY 23 (dp - 1) 0) := hYP.cong (fun k _ => rfl) (fun a ha => gA_sA_ne (by omega))
  have f1 : FP b (c0 + ly.length) dp m MY (sA MY 23 (dp - 1) 0) := FP.r.a (by unfold pReg; omega)
  have hy : fX12_operand n0 MY = fX12_operand_249 n0 wh (sA MY 23 (dp - 1) 0) := by rw [yop171 hP hb hYP.2.2.1 hdp hN.1, y171w hP1 hk, hwh]
  obtain ⟨MXa, Ma, s1, ax, ay, hs1, hPa, fx, fy⟩ := hP1.adv hn hs
  have fY := fy.Y
  have fx' : FI 386 392 MX MXa := fx.wk (by decide) (by decide)
  have hYa := hY1.tok fY
  have fa : FP b (c0 + ly.length) dp m MY Ma := f1.tr fY.p
  by_cases hc : gI MXa 386 = 40
  rotate_left
  · left
    refine ⟨MXa, _, ax, xgoN hc, fun rx hrx => badOp2 (kk := 1) (r := 0) (p := gI MXa 388) (M1 := Ma) hh (by decide) (by decide) (Or.inl rfl) hrx fx'.p fa ?_⟩
    rw [hy]
    have n1 : ¬ gI (sI (sI Ma 8 1) 9 (gI MXa 388)) 8 ≤ 0 := n8f (k := 1) (by decide) (by decide)
    unfold fX12_operand_249
    refine eq_b ay ?_
    by_cases hb' : gI MXa 386 = 258
    · refine eq_b (ylexB hPa hb') ?_
      rcases ySign2 (n0 := n0) (c := 40) (M := sI (sI Ma 8 1) 9 (gI MXa 388)) with q | q
      · exact eq_b q (eq_t rfl (eq_b (yblame1 n1) (y276F n1)))
      · exact eq_b q (eq_f i10 (y276F n1))
    · refine eq_b (ylexG hPa hb') (eq_b (ySign (by decide) hPa) (eq_t (bI_f hc) (eq_b (yblame0 hPa.f8) ?_)))
      rw [show gI (bI (gI MXa 386 = 40), Ma).2 4 = gI MXa 388 from hPa.at_.trans (hPa.pl hb').symm]
      exact y276F n1
  have hb' : ¬ gI MXa 386 = 258 := by rw [hc]; decide
  have e249 : ∀ r, fX12_operand_276 n0 wh Ma = r → fX12_operand n0 MY = r := fun r hr => by
    rw [hy]
    unfold fX12_operand_249
    exact eq_b ay (eq_b (ylexG hPa hb') (eq_b (ySign (by decide) hPa) (eq_f (bz hc) hr)))
  by_cases h7 : op = 7
  · left
    refine ⟨MXa, _, ax, xgo5 h7 hc, fun rx hrx => badOp2 (kk := 5) (r := 0) (p := nI s1) (M1 := Ma) hh (by decide) (by decide) (Or.inl rfl) (by rw [hrx, hPa.st]; rfl) fx'.p fa (e249 _ ?_)⟩
    have h42 : gI Ma 42 = 7 := by rw [hYa.2.2.2.2.2.2.2.2.2.2.2.1, h7]; rfl
    have n5 : ¬ gI (sI (sI Ma 8 5) 9 (nI s1)) 8 = 0 := pos_ne (n8f (k := 5) (by decide) (by decide))
    unfold fX12_operand_276 fX12_operand_289
    by_cases g : wh = 44
    · exact eq_t g (eq_b (opF hPa h42) (eq_f n5 rfl))
    · exact eq_f g (eq_b (opF hPa h42) (eq_f n5 rfl))
  right
  have h7' : op < 7 := by omega
  obtain ⟨MX1, M', s2, ax2, eo, hs2, m8, m41, hE1, fx1, fp1, k21, k22, k23, p22, p23⟩ := openEn (kk := if wh = 44 then 6 else 3) (fun M => sA M 24 dp wh) hn hh hPa (by omega) fx' hYa fa (hPa.2.1.2.2.2.2.lt (by rw [hc]; decide)) h7' (fun _ _ => rfl) (fun _ => rfl) (fun _ _ ha => gA_sA_ne ha) (fun M => FP.r.a (by unfold pReg; omega))
  have o41 : gI M' 41 - 1 = nI dp := by
    rw [m41]
    exact nI_subN (a := dp + 1) (b := 1) (by omega)
  have e276 : fX12_operand_276 n0 wh Ma = some (0, sA M' 24 dp wh) := by
    have e289 : ∀ u, u = (if wh = 44 then (6 : Int32) else 3) → fX12_operand_289 n0 wh u Ma = some (0, sA M' 24 dp wh) := fun u eu => by
      subst eu
      unfold fX12_operand_289
      refine eq_b eo (eq_t m8 (eq_f (by rw [o41]; exact nI_in (by omega) (by decide)) ?_))
      rw [o41, nI_clamp (by omega)]
    unfold fX12_operand_276
    by_cases g : wh = 44
    · exact eq_t g (e289 _ (by rw [if_pos g]))
    · exact eq_f g (e289 _ (by rw [if_neg g]))
  have hYb := hE1.2.2.2.2.1
  refine ⟨h7', MXa, MX1, sI (sA M' 24 dp wh) 45 0, s2, ax, xgo1 h7' hc ax2, ⟨fun w => ylop h45 (Or.inl rfl) (e249 _ e276) m8, by omega, fx1, fp1, hE1, ?_, ?_, ?_, ?_, ?_, Nat.le_refl _, ?_⟩, ?_⟩
  · show gA (sA M' 24 dp wh) 21 dp = _
    rw [gA_sA_ne (by decide)]; exact k21
  · show gA (sA M' 24 dp wh) 24 dp = _
    rw [gA_sA, if_pos rfl, if_pos rfl]
  · show gA (sA M' 24 dp wh) 22 dp = _
    rw [gA_sA_ne (by decide)]; exact k22
  · show gA (sA M' 24 dp wh) 22 (dp - 1) = _
    rw [gA_sA_ne (by decide), p22, fY.2.1 22 id, gA_sA_ne (by decide)]
  · show gA (sA M' 24 dp wh) 23 (dp - 1) = _
    rw [gA_sA_ne (by decide), p23, fY.2.1 23 id, gA_sA, if_pos rfl, if_pos rfl]
  · rw [fp1.2.1 25 (dp - 1) (by unfold pReg; omega)]
    exact hYP.2.2.2.2.1
  · show gA (sA M' 24 dp wh) 23 dp = _
    rw [gA_sA_ne (by decide)]; exact k23
/-- one part of a frame and the sign behind it: a comma -/
theorem inrC {rl r D : Nat} {t : Bool} {kf : Int32} {Q : Mem → Mem → Prop} {g : Mem → Option (Int32 × Mem)} (hn : 1601 ≤ n0) (hI : Inr n0 L s qf b c0 dp m bs op pw ly MX MY wh kf lxi lyi MXi MYi si k) (hk4 : kf = 3 ∨ kf = 6) (hr : 1 ≤ r) (hdp : 1 ≤ dp) (hS : Ok n0 L si qf b c0 (dp + 1) m m (op + 1) pw lxi lyi MXi MYi rl r D t Q (g MXi) ∨ Bad n0 si qf b c0 (dp + 1) m lyi MXi MYi (g MXi)) (hQ : ∀ MX' MY', gA MY' 21 dp = kf → Q MX' MY' → (¬ ari (gI MX' 386) ∨ (2 : Int32) ≤ gA MY' 22 dp) ∧ (¬ isT kf ∨ (¬ gA MY' 22 dp = 0 ∧ ¬ gI MX' 386 = 280 ∧ ¬ gI MX' 386 = 279))) :
    (∃ MXf, g MXi = some (0, MXf) ∧ ∀ rx, rx = some ((0 : Int32), MXf) → Bad n0 s qf b c0 dp m ly MX MY rx) ∨ (∃ MX2 MXf, g MXi = some (1, MX2) ∧ fX8_skip n0 44 MX2 = some (0, MXf) ∧ ∀ rx, rx = some ((0 : Int32), MXf) → Bad n0 s qf b c0 dp m ly MX MY rx) ∨
    (∃ MX2 MX3 MY3 s3 k3 δ, g MXi = some (1, MX2) ∧ fX8_skip n0 44 MX2 = some (1, MX3) ∧ (∀ st, st.length + D ≤ 60 → tyL δ st = some (t :: st)) ∧ 0 < δ.length ∧ Inr n0 L s qf b c0 dp m bs op pw ly MX MY wh (if kf = 3 then 4 else 3) (lxi ++ exL δ) (lyi ++ δ) MX3 MY3 s3 k3) := by
  obtain ⟨i1, i2, i3, i4, i5, i6, i7, i8, i9, i10', i11, i12⟩ := hI
  rcases hS with ⟨MX2, MY2, s2, k2, δ, R, ly2, er, hSt, hq⟩ | hB
  rotate_left
  · obtain ⟨MXf, MYf, kk, e, r1, r2, r3, r4, r5⟩ := hB
    exact Or.inl ⟨MXf, e, fun rx hrx => badUp (k1 := k) i1 i2 i3 i4 i11 (by omega) (Nat.le_refl _) (rx := g MXi) ⟨MXf, MYf, kk, e, r1, r2, r3, r4, r5⟩ (fun M eM => by rw [hrx]; rw [e] at eM; exact eM)⟩
  right
  have hSS := hSt
  obtain ⟨hlen1, hlen2, hlen3, hlen4⟩ := hSt.len i5
  obtain ⟨a1, a2, a3, a4, a5, a6, a7, a8, a9, a10, a11, a12, a13, a14, a15, a16⟩ := hSt
  have f21 : gA MY2 21 dp = kf := (a15.2.1 21 dp (by unfold pReg; omega)).trans i6
  obtain ⟨hc1, hc2⟩ := hQ MX2 MY2 f21 hq
  have fpA : FP b (c0 + ly.length) dp m MY MY2 := i4.tr (a15.wk (by omega) (by omega) (Nat.le_refl _))
  have hwA : ∀ w, YLp n0 (w + (k2 + k)) MY = YLp n0 w MY2 := fun w => by rw [← Nat.add_assoc, i1, a1]
  have hen : endOf kf = 44 := by rcases hk4 with q | q <;> rw [q] <;> rfl
  by_cases hc : gI MX2 386 = 44
  · right
    obtain ⟨MX3, MY3, s3, sk, hw3, hs3, hE3, fx3, fp3, g21, g22, g3, g24⟩ := commaP (kf := kf) hn i5 hSS hr f21 hk4 hc (by
      rcases hc2 with q | q
      · exact Or.inl q
      · exact Or.inr q.1) hdp
    refine ⟨MX2, MX3, MY3, s3, 1 + (k2 + k), δ, er, sk, a12, a13, fun w => ?_, by omega, (i3.tr a14).tr fx3.p, fpA.tr (fp3.wk (by omega) (Nat.le_refl _) (Nat.le_refl _)), hE3, g21, ?_, g22, ?_, ?_, ?_, ?_⟩
    · rw [← Nat.add_assoc, hwA, hw3]
    · rw [g24, a15.2.1 24 dp (by unfold pReg; omega)]; exact i7
    · rw [g3 22 (by omega), a15.2.1 22 (dp - 1) (by unfold pReg; omega)]; exact i9
    · rw [g3 23 (by omega), a15.2.1 23 (dp - 1) (by unfold pReg; omega)]; exact i10'
    · rw [List.length_append]; omega
    · rw [g3 25 (by omega), a15.2.1 25 (dp - 1) (by unfold pReg; omega)]; exact i12
  · left
    obtain ⟨sk, go⟩ := endBad (n0 := n0) (dq := dp + 1) (kf := kf) a4 (by rw [Nat.add_sub_cancel]; exact f21) (by rcases hk4 with q | q <;> rw [q] <;> decide) (by rw [hen]; exact hc) (by rw [Nat.add_sub_cancel]; exact hc1) (by rw [Nat.add_sub_cancel]; exact hc2) a6.2.2.1 a6.2.2.2.1
    rw [hen] at sk
    exact ⟨MX2, _, er, sk, fun rx hrx => badGo hwA (by omega) hlen4 (i3.tr a14) fpA a11 hrx go⟩
/-- the last part of a frame -/
theorem inrE {g : Mem → Option (Int32 × Mem)} (hn : 1601 ≤ n0) (hI : Inr n0 L s qf b c0 dp m bs op pw ly MX MY wh 4 lxi lyi MXi MYi si k) (hdp : 1 ≤ dp) (hb : bs ≤ m) (hS : Ok n0 L si qf b c0 (dp + 1) m m (op + 1) pw lxi lyi MXi MYi 2 5 (DP (op + 1) + 2) false (QSum (dp + 1) MYi) (g MXi) ∨ Bad n0 si qf b c0 (dp + 1) m lyi MXi MYi (g MXi)) :
    (∃ MXf, g MXi = some (0, MXf) ∧ ∀ rx, rx = some ((0 : Int32), MXf) → Bad n0 s qf b c0 dp m ly MX MY rx) ∨ (∃ MX2 MXf, g MXi = some (1, MX2) ∧ fX8_skip n0 41 MX2 = some (0, MXf) ∧ ∀ rx, rx = some ((0 : Int32), MXf) → Bad n0 s qf b c0 dp m ly MX MY rx) ∨
    (∃ MX2 MX3 MY3 s3 k3 δ, g MXi = some (1, MX2) ∧ fX8_skip n0 41 MX2 = some (1, MX3) ∧ (∀ st, st.length + (DP (op + 1) + 2) ≤ 60 → tyL δ st = some (false :: st)) ∧ 0 < δ.length ∧ (∀ w, YLp n0 (w + k3) MY = YLp n0 w MY3) ∧ (s + k3 ≤ s3 ∧ s < s3) ∧ PR L s3 MX3 MY3 ∧ xlist MX3 qf (lxi ++ exL δ) ∧ YP b c0 dp m bs op [] (lyi ++ δ ++ [(wh, 0)]) MY3 ∧ c0 + (lxi ++ exL δ).length + pw < s3 ∧ gI MY3 45 = 1 ∧ FPx qf MX MX3 ∧ FP b (c0 + ly.length) dp m MY MY3 ∧ gA MY3 22 (dp - 1) = gA MY 22 (dp - 1) ∧ gA MY3 23 (dp - 1) = 0 ∧ gR MX3 257 = qf ∧ (lxi ++ exL δ).length < 1600) := by
  obtain ⟨i1, i2, i3, i4, i5, i6, i7, i8, i9, i10', i11, i12⟩ := hI
  rcases hS with ⟨MX2, MY2, s2, k2, δ, R, ly2, er, hSt, hq⟩ | hB
  rotate_left
  · obtain ⟨MXf, MYf, kk, e, r1, r2, r3, r4, r5⟩ := hB
    exact Or.inl ⟨MXf, e, fun rx hrx => badUp (k1 := k) i1 i2 i3 i4 i11 (by omega) (Nat.le_refl _) (rx := g MXi) ⟨MXf, MYf, kk, e, r1, r2, r3, r4, r5⟩ (fun M eM => by rw [hrx]; rw [e] at eM; exact eM)⟩
  right
  have hSS := hSt
  obtain ⟨hlen1, hlen2, hlen3, hlen4⟩ := hSt.len i5
  obtain ⟨a1, a2, a3, a4, a5, a6, a7, a8, a9, a10, a11, a12, a13, a14, a15, a16⟩ := hSt
  have f21 : gA MY2 21 dp = 4 := (a15.2.1 21 dp (by unfold pReg; omega)).trans i6
  have fpA : FP b (c0 + ly.length) dp m MY MY2 := i4.tr (a15.wk (by omega) (by omega) (Nat.le_refl _))
  have hwA : ∀ w, YLp n0 (w + (k2 + k)) MY = YLp n0 w MY2 := fun w => by rw [← Nat.add_assoc, i1, a1]
  have b25 : gA MY2 25 (dp - 1) = nI bs := (a15.2.1 25 _ (by unfold pReg; omega)).trans i12
  have w24 : gA MY2 24 dp = wh := (a15.2.1 24 dp (by unfold pReg; omega)).trans i7
  have hq0 := i5.2.2.1
  by_cases hc : gI MX2 386 = 41
  · right
    obtain ⟨MX3, MY3, s3, sk, hw3, hs3, hP3, yp3, g45, fx3, fp3, g22, g23⟩ := closeP (kf := 4) (bs := bs) hn i5 hSS (by decide) f21 (Or.inr (Or.inl rfl)) hc (Or.inl (by decide)) hdp b25 hb
    rw [w24] at yp3
    refine ⟨MX2, MX3, MY3, s3, 1 + (k2 + k), δ, er, sk, a12, a13, fun w => ?_, ⟨by omega, by omega⟩, hP3, a5.fi fx3 hq0, by simpa [xtra] using yp3, by omega, g45, (i3.tr a14).tr fx3.p, fpA.tr (fp3.wk (by omega) (Nat.le_refl _) (Nat.le_refl _)), ?_, ?_, ?_, ?_⟩
    · rw [← Nat.add_assoc, hwA, hw3]
    · rw [g22, if_neg (by decide), a15.2.1 22 (dp - 1) (by unfold pReg; omega)]; exact i9
    · rw [g23, a15.2.1 23 (dp - 1) (by unfold pReg; omega)]; exact i10'
    · rw [fx3.R, a14.2.2]; exact i5.2.1
    · have := hP3.2.1.2.2.1
      have := hP3.L16
      omega
  · left
    obtain ⟨sk, go⟩ := endBad (n0 := n0) (dq := dp + 1) (kf := 4) a4 (by rw [Nat.add_sub_cancel]; exact f21) (by decide) hc (Or.inl hq.2) (Or.inl (by decide)) a6.2.2.1 a6.2.2.2.1
    exact ⟨MX2, _, er, sk, fun rx hrx => badGo hwA (by omega) hlen4 (i3.tr a14) fpA a11 hrx go⟩
end IN
end
section
/-! SUMS AND TESTS: min, max, if, values: every PART -/
section PP
variable {n0 L b c0 op : Nat} {rec : Nat → Int32 → Int32 → Mem → Option (Int32 × Mem)}
theorem xaddE {qf n0 : Nat} {x : Int32} {l : List Int32} {M : Mem} (h : xlist M qf l) (h257 : gR M 257 = qf) (hl : l.length < 1600) : fX3_add n0 x M = some (1, xAd qf l.length x M) := by
  unfold fX3_add
  rw [h257]
  exact eq_b (h.ad hl).1 rfl
theorem sumNF {n0 L s qf b c0 dp m bs op pw : Nat} {ly : List (Int32 × Int32)} {MX MY : Mem} {wh kf : Int32} {lxi : List Int32} {lyi : List (Int32 × Int32)} {MXi MYi : Mem} {si k : Nat} (hI : Inr n0 L s qf b c0 dp m bs op pw ly MX MY wh kf lxi lyi MXi MYi si k) (hk : kf = 3 ∨ kf = 4) : NF (dp + 1) MXi MYi := by
  obtain ⟨i1, i2, i3, i4, i5, i6, i7, i8, _⟩ := hI
  unfold NF
  rw [Nat.add_sub_cancel, i6, i8]
  exact ⟨Or.inl (by rcases hk with q | q <;> rw [q] <;> decide), by decide⟩
theorem sumQ {dp : Nat} {MY MX' MY' : Mem} (h : QSum (dp + 1) MY MX' MY') : (¬ ari (gI MX' 386) ∨ (2 : Int32) ≤ gA MY' 22 dp) ∧ (¬ isT 3 ∨ (¬ gA MY' 22 dp = 0 ∧ ¬ gI MX' 386 = 280 ∧ ¬ gI MX' 386 = 279)) := ⟨Or.inl h.2, Or.inl (by decide)⟩
/-- the last of it: the code of min, max, if -/
theorem pairEnd {s qf dp m bs pw : Nat} {lx lxi : List Int32} {ly lyi δ δ0 : List (Int32 × Int32)} {wh x : Int32} {MX MY MX3 MY3 : Mem} {s3 k3 : Nat} {rx : Option (Int32 × Mem)} (h : En L s qf b c0 dp m bs op pw lx ly MX MY) (hss : s < s3) (el : lxi = lx ++ exL δ0) (ely : lyi = ly ++ δ0) (hty : ∀ st : List Bool, st.length + DP op ≤ 60 → tyL (δ0 ++ δ ++ [(wh, 0)]) st = some (false :: st)) (hex : ex1 (wh, 0) = [x]) (p1 : ∀ w, YLp n0 (w + k3) MY = YLp n0 w MY3) (p2 : s + k3 ≤ s3) (p3 : PR L s3 MX3 MY3) (p4 : xlist MX3 qf (lxi ++ exL δ)) (p5 : YP b c0 dp m bs op [] (lyi ++ δ ++ [(wh, 0)]) MY3) (p6 : c0 + (lxi ++ exL δ).length + pw < s3) (p7 : gI MY3 45 = 1) (p8 : FPx qf MX MX3) (p9 : FP b (c0 + ly.length) dp m MY MY3) (p10 : gA MY3 22 (dp - 1) = gA MY 22 (dp - 1)) (p11 : gA MY3 23 (dp - 1) = 0) (p13 : (lxi ++ exL δ).length < 1600) (hrx : rx = some (1, xAd qf (lxi ++ exL δ).length x MX3)) :
    Ok n0 L s qf b c0 dp m bs op pw lx ly MX MY 0 6 (DP op) false (QPart dp MY) rx := by
  have hq := h.2.2.1
  have ee : exL (δ0 ++ δ ++ [(wh, 0)]) = exL δ0 ++ exL δ ++ [x] := by rw [exL_app, exL_app, exL_one, hex]
  subst el ely
  refine ⟨_, MY3, s3, k3, δ0 ++ δ ++ [(wh, 0)], [], ly ++ (δ0 ++ δ ++ [(wh, 0)]), hrx, ⟨p1, p2, hss, p3.xad hq, ?_, by simpa using p5, by simp [fl], fun o ho => by simp at ho, by simp, ?_, p7, hty, by simp; omega, p8.tr xAd_FP, p9, by simp⟩, p10, p11⟩
  · rw [ee, ← List.append_assoc, ← List.append_assoc]
    exact (p4.ad (n0 := 0) p13).2
  · rw [ee]
    simp only [List.length_append, List.length_cons, List.length_nil] at p6 ⊢
    omega
theorem pairP {x2 : Int32} (hn : 1601 ≤ n0) (hSum : op < 7 → SSum n0 L b c0 (op + 1) (fun M => rec 0 (nI (op + 1)) 0 M)) : SPart n0 L b c0 op (fun M => (gI M 386 = 283 ∧ x2 = -12) ∨ (gI M 386 = 284 ∧ x2 = -13)) (fun M => fX3_readPair n0 rec (nI op) x2 M) := by
  intro s qf dp m bs pw lx ly MX MY h hk hN hm
  have hdp := h.2.2.2.2.1.2.2.2.1
  have hbs := h.2.2.2.2.1.2.2.2.2.2.1
  have hk3 : gI MX 386 = 283 ∨ gI MX 386 = 284 ∨ gI MX 386 = 278 := by
    rcases hk with q | q
    · exact Or.inl q.1
    · exact Or.inr (Or.inl q.1)
  have hw44 : ¬ (if gI MX 386 = 283 then (36 : Int32) else if gI MX 386 = 284 then 37 else 44) = 44 := by
    rcases hk with q | q
    · rw [if_pos q.1]; decide
    · rw [q.1]; decide
  have hex : ex1 (if gI MX 386 = 283 then (36 : Int32) else if gI MX 386 = 284 then 37 else 44, 0) = [x2] := by
    rcases hk with q | q
    · rw [if_pos q.1, q.2]; decide
    · rw [q.1, q.2]; decide
  have hty1 : ∀ st : List Bool, ty1 (if gI MX 386 = 283 then (36 : Int32) else if gI MX 386 = 284 then 37 else 44, 0) (false :: false :: st) = some (false :: st) := by
    intro st
    rcases hk with q | q
    · rw [if_pos q.1]; rfl
    · rw [q.1]; rfl
  show Ok n0 L s qf b c0 dp m bs op pw lx ly MX MY 0 6 (DP op) false (QPart dp MY) (fX3_readPair n0 rec (nI op) x2 MX) ∨ Bad n0 s qf b c0 dp m ly MX MY (fX3_readPair n0 rec (nI op) x2 MX)
  rcases kwOpen (n0 := n0) hn h hk3 hN rfl with ⟨MXa, MXf, ea, eg, hB⟩ | ⟨h7, MXa, MX1, MY1, s1, ea, eg, hI1, -⟩
  · right
    refine hB _ ?_
    unfold fX3_readPair
    exact eq_b ea (eq_b eg (eq_t rfl rfl))
  rw [if_neg hw44] at hI1
  have s1s := hI1.2.1
  rcases inrC (g := fun M => rec 0 (nI (op + 1)) 0 M) hn hI1 (Or.inl rfl) (by decide) hdp.1 (hSum h7 _ _ _ _ _ _ _ _ _ _ hI1.2.2.2.2.1 (sumNF hI1 (Or.inl rfl)) (Or.inl rfl) (by omega)) (fun MX' MY' _ q => sumQ q) with ⟨MXf, e1, hB⟩ | ⟨MX2, MXf, e1, e2, hB⟩ | ⟨MX2, MX3, MY3, s3, k3, δ1, e1, e2, ty1', l1, hI3⟩
  · right
    refine hB _ ?_
    unfold fX3_readPair
    rw [nI_1]
    exact eq_b ea (eq_b eg (eq_f i10 (eq_b e1 (eq_t rfl rfl))))
  · right
    refine hB _ ?_
    unfold fX3_readPair
    rw [nI_1]
    exact eq_b ea (eq_b eg (eq_f i10 (eq_b e1 (eq_f i10 (eq_b e2 (eq_t rfl rfl))))))
  rw [if_pos rfl] at hI3
  rcases inrE (g := fun M => rec 0 (nI (op + 1)) 0 M) hn hI3 hdp.1 hbs (hSum h7 _ _ _ _ _ _ _ _ _ _ hI3.2.2.2.2.1 (sumNF hI3 (Or.inr rfl)) (Or.inl rfl) (by omega)) with ⟨MXf, e3, hB⟩ | ⟨MX4, MXf, e3, e4, hB⟩ | ⟨MX4, MX5, MY5, s5, k5, δ2, e3, e4, ty2', l2, p1, p2, p3, p4, p5, p6, p7, p8, p9, p10, p11, p12, p13⟩
  · right
    refine hB _ ?_
    unfold fX3_readPair
    rw [nI_1]
    exact eq_b ea (eq_b eg (eq_f i10 (eq_b e1 (eq_f i10 (eq_b e2 (eq_f i10 (eq_b e3 (eq_t rfl rfl))))))))
  · right
    refine hB _ ?_
    unfold fX3_readPair
    rw [nI_1]
    exact eq_b ea (eq_b eg (eq_f i10 (eq_b e1 (eq_f i10 (eq_b e2 (eq_f i10 (eq_b e3 (eq_f i10 (eq_b e4 (eq_t rfl rfl))))))))))
  left
  refine pairEnd (δ0 := δ1) (x := x2) h p2.2 rfl rfl (fun st hst => ?_) hex p1 p2.1 p3 p4 p5 p6 p7 p8 p9 p10 p11 p13 ?_
  · unfold DP at hst ty1' ty2'
    rw [tyL_app, tyL_app, ty1' st (by omega)]
    show ((tyL δ2 (false :: st)).bind (tyL _)) = _
    rw [ty2' (false :: st) (by simp; omega)]
    show tyL [_] (false :: false :: st) = _
    rw [tyL_one]
    exact hty1 st
  · unfold fX3_readPair
    rw [nI_1]
    exact eq_b ea (eq_b eg (eq_f i10 (eq_b e1 (eq_f i10 (eq_b e2 (eq_f i10 (eq_b e3 (eq_f i10 (eq_b e4 (eq_f i10 (eq_b (xaddE p4 p12 p13) (eq_f i10 rfl))))))))))))
theorem choiceP (hn : 1601 ≤ n0) (hSum : op < 7 → SSum n0 L b c0 (op + 1) (fun M => rec 0 (nI (op + 1)) 0 M)) (hTest : op < 7 → STest n0 L b c0 (op + 1) (fun M => rec 5 (nI (op + 1)) 0 M)) : SPart n0 L b c0 op (fun M => gI M 386 = 278) (fun M => fX3_readChoice n0 rec (nI op) M) := by
  intro s qf dp m bs pw lx ly MX MY h hk hN hm
  have hdp := h.2.2.2.2.1.2.2.2.1
  have hbs := h.2.2.2.2.1.2.2.2.2.2.1
  have hwh : (44 : Int32) = if gI MX 386 = 283 then 36 else if gI MX 386 = 284 then 37 else 44 := by rw [hk]; decide
  show Ok n0 L s qf b c0 dp m bs op pw lx ly MX MY 0 6 (DP op) false (QPart dp MY) (fX3_readChoice n0 rec (nI op) MX) ∨ Bad n0 s qf b c0 dp m ly MX MY (fX3_readChoice n0 rec (nI op) MX)
  rcases kwOpen (n0 := n0) hn h (Or.inr (Or.inr hk)) hN hwh with ⟨MXa, MXf, ea, eg, hB⟩ | ⟨h7, MXa, MX1, MY1, s1, ea, eg, hI1, b23⟩
  · right
    refine hB _ ?_
    unfold fX3_readChoice
    exact eq_b ea (eq_b eg (eq_t rfl rfl))
  rw [if_pos rfl] at hI1
  have tp : TPre (dp + 1) MY1 := by
    unfold TPre
    rw [Nat.add_sub_cancel, hI1.2.2.2.2.2.1, hI1.2.2.2.2.2.2.2.1, b23]
    decide
  rcases inrC (g := fun M => rec 5 (nI (op + 1)) 0 M) hn hI1 (Or.inr rfl) (by decide) hdp.1 (hTest h7 _ _ _ _ _ _ _ _ _ _ hI1.2.2.2.2.1 tp rfl (by omega)) (fun MX' MY' _ q => by
      have q1 : gA MY' 22 dp = 2 ∨ (gA MY' 22 dp = 1 ∧ ¬ ari (gI MX' 386)) := q.1
      refine ⟨?_, Or.inr ⟨?_, q.2.1, q.2.2⟩⟩
      · rcases q1 with z | z
        · exact Or.inr (by rw [z]; decide)
        · exact Or.inl z.2
      · rcases q1 with z | z
        · rw [z]; decide
        · rw [z.1]; decide) with ⟨MXf, e1, hB⟩ | ⟨MX2, MXf, e1, e2, hB⟩ | ⟨MX2, MX3, MY3, s3, k3, δ1, e1, e2, ty1', l1, hI3⟩
  · right
    refine hB _ ?_
    unfold fX3_readChoice
    rw [nI_1]
    exact eq_b ea (eq_b eg (eq_f i10 (eq_b e1 (eq_t rfl rfl))))
  · right
    refine hB _ ?_
    unfold fX3_readChoice
    rw [nI_1]
    exact eq_b ea (eq_b eg (eq_f i10 (eq_b e1 (eq_f i10 (eq_b e2 (eq_t rfl rfl))))))
  rw [if_neg (by decide)] at hI3
  rcases inrC (g := fun M => rec 0 (nI (op + 1)) 0 M) hn hI3 (Or.inl rfl) (by decide) hdp.1 (hSum h7 _ _ _ _ _ _ _ _ _ _ hI3.2.2.2.2.1 (sumNF hI3 (Or.inl rfl)) (Or.inl rfl) (by omega)) (fun MX' MY' _ q => sumQ q) with ⟨MXf, e3, hB⟩ | ⟨MX4, MXf, e3, e4, hB⟩ | ⟨MX4, MX5, MY5, s5, k5, δ2, e3, e4, ty2', l2, hI5⟩
  · right
    refine hB _ ?_
    unfold fX3_readChoice
    rw [nI_1]
    exact eq_b ea (eq_b eg (eq_f i10 (eq_b e1 (eq_f i10 (eq_b e2 (eq_f i10 (eq_b e3 (eq_t rfl rfl))))))))
  · right
    refine hB _ ?_
    unfold fX3_readChoice
    rw [nI_1]
    exact eq_b ea (eq_b eg (eq_f i10 (eq_b e1 (eq_f i10 (eq_b e2 (eq_f i10 (eq_b e3 (eq_f i10 (eq_b e4 (eq_t rfl rfl))))))))))
  rw [if_pos rfl] at hI5
  rcases inrE (g := fun M => rec 0 (nI (op + 1)) 0 M) hn hI5 hdp.1 hbs (hSum h7 _ _ _ _ _ _ _ _ _ _ hI5.2.2.2.2.1 (sumNF hI5 (Or.inr rfl)) (Or.inl rfl) (by omega)) with ⟨MXf, e5, hB⟩ | ⟨MX6, MXf, e5, e6, hB⟩ | ⟨MX6, MX7, MY7, s7, k7, δ3, e5, e6, ty3', l3, p1, p2, p3, p4, p5, p6, p7, p8, p9, p10, p11, p12, p13⟩
  · right
    refine hB _ ?_
    unfold fX3_readChoice
    rw [nI_1]
    exact eq_b ea (eq_b eg (eq_f i10 (eq_b e1 (eq_f i10 (eq_b e2 (eq_f i10 (eq_b e3 (eq_f i10 (eq_b e4 (eq_f i10 (eq_b e5 (eq_t rfl rfl))))))))))))
  · right
    refine hB _ ?_
    unfold fX3_readChoice
    rw [nI_1]
    exact eq_b ea (eq_b eg (eq_f i10 (eq_b e1 (eq_f i10 (eq_b e2 (eq_f i10 (eq_b e3 (eq_f i10 (eq_b e4 (eq_f i10 (eq_b e5 (eq_f i10 (eq_b e6 (eq_t rfl rfl))))))))))))))
  left
  have hx12 : lx ++ exL δ1 ++ exL δ2 = lx ++ exL (δ1 ++ δ2) := by rw [exL_app, List.append_assoc]
  have hy12 : ly ++ δ1 ++ δ2 = ly ++ (δ1 ++ δ2) := List.append_assoc _ _ _
  refine pairEnd (δ0 := δ1 ++ δ2) (x := -14) h p2.2 hx12 hy12 (fun st hst => ?_) (by decide) p1 p2.1 p3 p4 p5 p6 p7 p8 p9 p10 p11 p13 ?_
  · unfold DP at hst ty1' ty2' ty3'
    rw [tyL_app, tyL_app, tyL_app, ty1' st (by omega)]
    show (((tyL δ2 (true :: st)).bind (tyL δ3)).bind (tyL _)) = _
    rw [ty2' (true :: st) (by simp; omega)]
    show ((tyL δ3 (false :: true :: st)).bind (tyL _)) = _
    rw [ty3' (false :: true :: st) (by simp; omega)]
    show tyL [((44 : Int32), (0 : Int32))] (false :: false :: true :: st) = _
    rw [tyL_one]
    rfl
  · unfold fX3_readChoice
    rw [nI_1]
    exact eq_b ea (eq_b eg (eq_f i10 (eq_b e1 (eq_f i10 (eq_b e2 (eq_f i10 (eq_b e3 (eq_f i10 (eq_b e4 (eq_f i10 (eq_b e5 (eq_f i10 (eq_b e6 (eq_f i10 (eq_b (xaddE p4 p12 p13) (eq_f i10 rfl))))))))))))))))
end PP
end
section
/-! SUMS AND TESTS: every PART; PRODUCT, SUM -/
theorem Ok.nrm {n0 L s qf b c0 dp m bs op pw rl r D : Nat} {t : Bool} {lx : List Int32} {ly : List (Int32 × Int32)} {MX MY : Mem} {Q : Mem → Mem → Prop} {rx rx' : Option (Int32 × Mem)} (h : Ok n0 L s qf b c0 dp m bs op pw lx ly MX MY rl r D t Q rx ∨ Bad n0 s qf b c0 dp m ly MX MY rx) (hx : ∀ v M, (v = 0 ∨ v = 1) → rx = some (v, M) → rx' = some (v, M)) : Ok n0 L s qf b c0 dp m bs op pw lx ly MX MY rl r D t Q rx' ∨ Bad n0 s qf b c0 dp m ly MX MY rx' := by
  rcases h with ⟨a, b, c, d, e, f, g, h1, h2⟩ | ⟨a, b, c, h1, h2⟩
  · exact Or.inl ⟨a, b, c, d, e, f, g, hx _ _ (Or.inr rfl) h1, h2⟩
  · exact Or.inr ⟨a, b, c, hx _ _ (Or.inl rfl) h1, h2⟩
theorem tyv {so v : Int32} {st : List Bool} (h0 : ¬ so = 0) (hs : so = 1 ∨ so = 2 ∨ so = 3 ∨ so = 4 ∨ so = 5 ∨ so = 6) (hl : st.length < 60) : ty1 (so, v) st = some (false :: st) := by
  unfold ty1
  dsimp only
  rw [if_neg h0, if_pos hs, if_pos hl]
theorem ex1v {so v : Int32} (h0 : ¬ so = 0) (h43 : ¬ so = 43) : ex1 (so, v) = [exS so] := by
  unfold ex1
  dsimp only
  rw [if_neg h0, if_neg h43]
section LF
variable {n0 L s qf b c0 dp m bs op pw : Nat} {lx : List Int32} {ly : List (Int32 × Int32)} {MX MY : Mem} {rx : Option (Int32 × Mem)}
theorem leafQ {so x : Int32} (hn : 1601 ≤ n0) (h : En L s qf b c0 dp m bs op pw lx ly MX MY) (hN : NF dp MX MY) (hb : ¬ gI MX 386 = 258) (hb9 : ¬ gI MX 386 = 259) (h1 : ¬ gI MX 386 = 40) (h2 : ¬ gI MX 386 = 283) (h3 : ¬ gI MX 386 = 284) (h4 : ¬ gI MX 386 = 278) (hso : sortOf (gI MX 386) = so) (hne : ¬ so = -1) (h411 : fX12_operand_411 n0 so (sA MY 23 (dp - 1) 0) = fX12_operand_437 n0 so (sA MY 23 (dp - 1) 0)) (hex : ex1 (so, gI MY 6) = [x]) (hty : ∀ st : List Bool, st.length < 60 → ty1 (so, gI MY 6) st = some (false :: st)) (hx : ∀ MX', fX3_addAndAdvance n0 x MX = some (1, MX') → rx = some (1, MX')) :
    Ok n0 L s qf b c0 dp m bs op pw lx ly MX MY 0 6 (DP op) false (QPart dp MY) rx := by
  have hh := h
  obtain ⟨hP, h257, hq, hxl, hYP, h258, hdo, hmp, hcs, hll, h45⟩ := h
  have hs := hP.2.1.2.2.2.2.lt hb9
  have hdp := hYP.2.2.2.1
  have hP1 : PR L s MX (sA MY 23 (dp - 1) 0) := hP.ar (by decide)
  have hY1 : YP b c0 dp m bs op [] ly (sA MY 23 (dp - 1) 0) := hYP.cong (fun k _ => rfl) (fun a ha => gA_sA_ne (by omega))
  have f1 : FP b (c0 + ly.length) dp m MY (sA MY 23 (dp - 1) 0) := FP.r.a (by unfold pReg; omega)
  have hL16 := hP.L16
  have ya := (hY1.add (n0 := n0) (x := so) (y := gI MY 6) (by omega)).2
  refine leafP (so := so) (v := gI MY 6) (x := x) (M1 := sA MY 23 (dp - 1) 0) (fun M => M) hn hh hs hP1 hY1 f1 (hP1.add.xad hq) ya FP.r ?_ hx hex hty (by unfold DP; omega) (fun MX' MY' fY => ?_)
  · rw [yop171 hP hb hYP.2.2.1 hdp hN.1, y171l hP1 hb h1 h2 h3 h4, hso, h411, y437 hP1 hne]
    rfl
  · have ar : ∀ a, a = 22 ∨ a = 23 → gA (sI MY' 45 1) a (dp - 1) = gA (sA MY 23 (dp - 1) 0) a (dp - 1) := fun a ha => by
      show gA MY' a (dp - 1) = _
      rw [fY.2.1 a id]
      unfold yAdd
      show gA (sA (sA (sA MY 23 (dp - 1) 0) 16 _ _) 17 _ _) a (dp - 1) = _
      rw [gA_sA_ne (by omega), gA_sA_ne (by omega)]
    exact ⟨by rw [ar 22 (Or.inl rfl), gA_sA_ne (by decide)], by rw [ar 23 (Or.inr rfl), gA_sA, if_pos rfl, if_pos rfl]⟩
theorem leafB (h : En L s qf b c0 dp m bs op pw lx ly MX MY) (hN : NF dp MX MY) (hb : ¬ gI MX 386 = 258) (h1 : ¬ gI MX 386 = 40) (h2 : ¬ gI MX 386 = 283) (h3 : ¬ gI MX 386 = 284) (h4 : ¬ gI MX 386 = 278) (h411 : fX12_operand_411 n0 (sortOf (gI MX 386)) (sA MY 23 (dp - 1) 0) = fX12_operand_437 n0 (-1) (sA MY 23 (dp - 1) 0)) (hx : rx = some (0, sI (sI MX 391 1) 392 (gI MX 388))) : Bad n0 s qf b c0 dp m ly MX MY rx := by
  have hh := h
  obtain ⟨hP, h257, hq, hxl, hYP, h258, hdo, hmp, hcs, hll, h45⟩ := h
  have hdp := hYP.2.2.2.1
  have hP1 : PR L s MX (sA MY 23 (dp - 1) 0) := hP.ar (by decide)
  refine badOp (k := 1) (r := 1) (p := nI s) (M1 := sA MY 23 (dp - 1) 0) hh (by decide) (by decide) (Or.inr rfl) (by rw [hx, hP.pl hb]; rfl) (FP.r.a (by unfold pReg; omega)) ?_
  rw [yop171 hP hb hYP.2.2.1 hdp hN.1, y171l hP1 hb h1 h2 h3 h4, h411, y437F hP1]
  rfl
end LF
theorem partP {n0 L b c0 op : Nat} {rec : Nat → Int32 → Int32 → Mem → Option (Int32 × Mem)} (hn : 1601 ≤ n0) (hSum : op < 7 → SSum n0 L b c0 (op + 1) (fun M => rec 0 (nI (op + 1)) 0 M)) (hPair : ∀ x2, SPart n0 L b c0 op (fun M => (gI M 386 = 283 ∧ x2 = -12) ∨ (gI M 386 = 284 ∧ x2 = -13)) (fun M => rec 3 (nI op) x2 M)) (hCh : SPart n0 L b c0 op (fun M => gI M 386 = 278) (fun M => rec 4 (nI op) 0 M)) : SPart n0 L b c0 op (fun _ => True) (fun M => fX3_readPart n0 rec (nI op) M) := by
  intro s qf dp m bs pw lx ly MX MY h _ hN hm
  have hP := h.1
  have hg35 : gI (sA MY 23 (dp - 1) 0) 35 = gI MX 258 := h.2.2.2.2.2.1.1.symm
  have h01 := h.2.2.2.2.2.1.2
  show Ok n0 L s qf b c0 dp m bs op pw lx ly MX MY 0 6 (DP op) false (QPart dp MY) (fX3_readPart n0 rec (nI op) MX) ∨ Bad n0 s qf b c0 dp m ly MX MY (fX3_readPart n0 rec (nI op) MX)
  unfold fX3_readPart
  by_cases k40 : gI MX 386 = 40
  · exact parP hn hSum h k40 hN hm (eq_t k40 rfl)
  rw [if_neg k40]
  by_cases k256 : gI MX 386 = 256
  · left
    obtain ⟨v, hv, ex, ey⟩ := (hP.2.1.2.2.2.2.sg2 (by rw [k256]; decide)).2 k256
    refine leafQ (so := 0) (x := gI MX 389) hn h hN (by rw [k256]; decide) (by rw [k256]; decide) (by rw [k256]; decide) (by rw [k256]; decide) (by rw [k256]; decide) (by rw [k256]; decide) (by rw [k256]; rfl) (by decide) (by unfold fX12_operand_411; exact eq_t (by decide) rfl) ?_ (fun st hst => ?_) (fun MX' e => eq_t k256 (eq_b e (eq_t (Or.inr rfl) rfl)))
    · rw [ex, ey]; rfl
    · rw [ey]
      unfold ty1
      dsimp only
      rw [if_pos rfl, if_pos ⟨hst, nI_pos' (by omega), nI_le (b := 9999) hv (by decide)⟩]
  rw [if_neg k256]
  have lf : ∀ (so : Int32), (so = 1 ∨ so = 2 ∨ so = 3 ∨ so = 4) → fX12_operand_411 n0 so (sA MY 23 (dp - 1) 0) = fX12_operand_437 n0 so (sA MY 23 (dp - 1) 0) := fun so hso => by
    unfold fX12_operand_411
    refine eq_t ?_ rfl
    rcases hso with q | q | q | q <;> rw [q] <;> decide
  by_cases k261 : gI MX 386 = 261
  · left
    exact leafQ (so := 1) (x := -1) hn h hN (by rw [k261]; decide) (by rw [k261]; decide) (by rw [k261]; decide) (by rw [k261]; decide) (by rw [k261]; decide) (by rw [k261]; decide) (by rw [k261]; rfl) (by decide) (lf 1 (by decide)) (by rw [ex1v (by decide) (by decide)]; rfl) (fun st hst => tyv (by decide) (by decide) hst) (fun MX' e => eq_t k261 (eq_b e (eq_t (Or.inr rfl) rfl)))
  rw [if_neg k261]
  by_cases k262 : gI MX 386 = 262
  · rw [if_pos k262]
    by_cases g : gI MX 258 = 0
    · right
      refine leafB h hN (by rw [k262]; decide) (by rw [k262]; decide) (by rw [k262]; decide) (by rw [k262]; decide) (by rw [k262]; decide) ?_ (eq_t g (eq_b xfailH (eq_t (Or.inl rfl) rfl)))
      rw [k262, show sortOf 262 = 6 from rfl]
      unfold fX12_operand_411 fX12_operand_428
      exact eq_f (by decide) (eq_t rfl (eq_f (by rw [hg35, g]; decide) rfl))
    · left
      have g1 : gI MX 258 = 1 := by rcases h01 with q | q; exact absurd q g; exact q
      refine leafQ (so := 6) (x := -6) hn h hN (by rw [k262]; decide) (by rw [k262]; decide) (by rw [k262]; decide) (by rw [k262]; decide) (by rw [k262]; decide) (by rw [k262]; decide) (by rw [k262]; rfl) (by decide) ?_ (by rw [ex1v (by decide) (by decide)]; rfl) (fun st hst => tyv (by decide) (by decide) hst) (fun MX' e => eq_f g (eq_b e (eq_t (Or.inr rfl) rfl)))
      unfold fX12_operand_411 fX12_operand_428
      exact eq_f (by decide) (eq_t rfl (eq_t (by rw [hg35, g1]) rfl))
  rw [if_neg k262]
  by_cases k263 : gI MX 386 = 263
  · left
    exact leafQ (so := 3) (x := -3) hn h hN (by rw [k263]; decide) (by rw [k263]; decide) (by rw [k263]; decide) (by rw [k263]; decide) (by rw [k263]; decide) (by rw [k263]; decide) (by rw [k263]; rfl) (by decide) (lf 3 (by decide)) (by rw [ex1v (by decide) (by decide)]; rfl) (fun st hst => tyv (by decide) (by decide) hst) (fun MX' e => eq_t k263 (eq_b e (eq_t (Or.inr rfl) rfl)))
  rw [if_neg k263]
  by_cases k275 : gI MX 386 = 275
  · left
    exact leafQ (so := 2) (x := -2) hn h hN (by rw [k275]; decide) (by rw [k275]; decide) (by rw [k275]; decide) (by rw [k275]; decide) (by rw [k275]; decide) (by rw [k275]; decide) (by rw [k275]; rfl) (by decide) (lf 2 (by decide)) (by rw [ex1v (by decide) (by decide)]; rfl) (fun st hst => tyv (by decide) (by decide) hst) (fun MX' e => eq_t k275 (eq_b e (eq_t (Or.inr rfl) rfl)))
  rw [if_neg k275]
  by_cases k276 : gI MX 386 = 276
  · left
    exact leafQ (so := 4) (x := -4) hn h hN (by rw [k276]; decide) (by rw [k276]; decide) (by rw [k276]; decide) (by rw [k276]; decide) (by rw [k276]; decide) (by rw [k276]; decide) (by rw [k276]; rfl) (by decide) (lf 4 (by decide)) (by rw [ex1v (by decide) (by decide)]; rfl) (fun st hst => tyv (by decide) (by decide) hst) (fun MX' e => eq_t k276 (eq_b e (eq_t (Or.inr rfl) rfl)))
  rw [if_neg k276]
  by_cases k277 : gI MX 386 = 277
  · rw [if_pos k277]
    by_cases g : gI MX 258 = 0
    · left
      refine leafQ (so := 5) (x := -5) hn h hN (by rw [k277]; decide) (by rw [k277]; decide) (by rw [k277]; decide) (by rw [k277]; decide) (by rw [k277]; decide) (by rw [k277]; decide) (by rw [k277]; rfl) (by decide) ?_ (by rw [ex1v (by decide) (by decide)]; rfl) (fun st hst => tyv (by decide) (by decide) hst) (fun MX' e => eq_t g (eq_b e (eq_t (Or.inr rfl) rfl)))
      unfold fX12_operand_411 fX12_operand_428
      exact eq_f (by decide) (eq_f (by decide) (eq_t (by rw [hg35, g]) rfl))
    · right
      have g1 : gI MX 258 = 1 := by rcases h01 with q | q; exact absurd q g; exact q
      refine leafB h hN (by rw [k277]; decide) (by rw [k277]; decide) (by rw [k277]; decide) (by rw [k277]; decide) (by rw [k277]; decide) ?_ (eq_f g (eq_b xfailH (eq_t (Or.inl rfl) rfl)))
      rw [k277, show sortOf 277 = 5 from rfl]
      unfold fX12_operand_411 fX12_operand_428
      exact eq_f (by decide) (eq_f (by decide) (eq_f (by rw [hg35, g1]; decide) rfl))
  rw [if_neg k277]
  by_cases k278 : gI MX 386 = 278
  · exact Ok.nrm (hCh s qf dp m bs pw lx ly MX MY h k278 hN hm) (fun v M hv e => eq_t k278 (eq_b e (eq_t hv rfl)))
  rw [if_neg k278]
  by_cases k283 : gI MX 386 = 283
  · exact Ok.nrm (hPair (-12) s qf dp m bs pw lx ly MX MY h (Or.inl ⟨k283, rfl⟩) hN hm) (fun v M hv e => eq_t k283 (eq_b e (eq_t hv rfl)))
  rw [if_neg k283]
  by_cases k284 : gI MX 386 = 284
  · exact Ok.nrm (hPair (-13) s qf dp m bs pw lx ly MX MY h (Or.inr ⟨k284, rfl⟩) hN hm) (fun v M hv e => eq_t k284 (eq_b e (eq_t hv rfl)))
  rw [if_neg k284]
  right
  by_cases k258 : gI MX 386 = 258
  · exact badOp (k := 1) (r := 1) (p := gI MX 388) (M1 := MY) h (by decide) (by decide) (Or.inr rfl) (eq_b xfailH (eq_t (Or.inl rfl) rfl)) FP.r (yopB hP k258)
  · refine leafB h hN k258 k40 k283 k284 k278 ?_ (eq_b xfailH (eq_t (Or.inl rfl) rfl))
    rw [show sortOf (gI MX 386) = -1 from by unfold sortOf; rw [if_neg k256, if_neg k261, if_neg k275, if_neg k263, if_neg k276, if_neg k277, if_neg k262]]
    unfold fX12_operand_411
    exact eq_t (by decide) rfl
end
section
/-! SUMS AND TESTS: what is joined by signs: PRODUCT, SUM, BOTH, TEST -/
theorem loop_ext {α : Type} {F G : α → α} {z : α} (h : ∀ k, F k = G k) : ∀ w, loopN F z w = loopN G z w
  | 0 => rfl
  | w + 1 => by
    show F (loopN F z w) = G (loopN G z w)
    rw [loop_ext h w, h]
/-- the class's loop over signs -/
def gBody (n0 : Nat) (stepf : Int32 → Int32) (g : Mem → Option (Int32 × Mem)) (k12 : Int32 → Int32 → Mem → Option (Int32 × Mem)) (x1 x2 : Int32) (M : Mem) : Option (Int32 × Mem) :=
  if (1600 : Int32) ≤ x2 then some ((1 : Int32), M) else
  if stepf (gI M 386) = 0 then some ((1 : Int32), M) else
  (fX8_advance n0 M).bind fun z35 => (g z35).bind fun z40 =>
  if z40.1 = 0 then some ((0 : Int32), z40.2) else
  (fX0_add n0 (gR z40.2 257) (stepf (gI M 386)) z40.2).bind fun z53 => k12 x1 (x2 + (1 : Int32)) z53
theorem binL {n0 L s qf b c0 dp m bs op pw rl r D rl2 r2 D2 : Nat} {ta tb : Bool} {lx : List Int32} {ly : List (Int32 × Int32)} {MX MY : Mem} {x1 : Int32} (stepf opf : Int32 → Int32) (g : Mem → Option (Int32 × Mem)) (Qc : Int32 → Mem → Prop) (E2 : Mem → Mem → Prop) (Q2 : Mem → Mem → Mem → Prop) (hn : 1601 ≤ n0) (h : En L s qf b c0 dp m bs op pw lx ly MX MY)
    (hNx : ∀ MXc MYc sc k δ R lyc, St n0 L s qf b c0 dp m bs op pw lx ly MX MY rl r D ta MXc MYc sc k δ R lyc → Qc (gI MXc 386) MYc → ¬ stepf (gI MXc 386) = 0 → ∃ MX1 MY1 s1, Nx n0 L qf b c0 dp m bs op pw (lx ++ exL δ) (ly ++ δ) MXc MYc sc (c0 + ly.length) (opf (gI MXc 386)) MX1 MY1 s1 ∧ E2 MX1 MY1)
    (hIn : ∀ s1 lx1 ly1 MX1 MY1, En L s1 qf b c0 dp (m + 1) bs op (pw + 1) lx1 ly1 MX1 MY1 → gA MY1 26 m = opf (gI MY1 0) ∨ True → E2 MX1 MY1 → Ok n0 L s1 qf b c0 dp (m + 1) bs op (pw + 1) lx1 ly1 MX1 MY1 rl2 r2 D2 tb (Q2 MY1) (g MX1) ∨ Bad n0 s1 qf b c0 dp (m + 1) ly1 MX1 MY1 (g MX1))
    (hQc : ∀ MX1 MY1 MX2 MY2, E2 MX1 MY1 → FP b (c0 + ly.length) dp m MY1 MY2 → Q2 MY1 MX2 MY2 → Qc (gI MX2 386) MY2)
    (hop : ∀ k, ¬ stepf k = 0 → ¬ opf k = 43 ∧ ex1 (opf k, 0) = [stepf k] ∧ r ≤ rkI (opf k) ∧ ∀ st : List Bool, ty1 (opf k, 0) (tb :: ta :: st) = some (ta :: st)) (h259 : stepf 259 = 0) (hr2 : r ≤ r2) (hl : rl2 + 1 ≤ rl) (hD : D2 + 1 ≤ D) :
    ∀ (w j : Nat) MXc MYc sc k δ R lyc, St n0 L s qf b c0 dp m bs op pw lx ly MX MY rl r D ta MXc MYc sc k δ R lyc → Qc (gI MXc 386) MYc → j ≤ sc → 1600 < w + j →
      Ok n0 L s qf b c0 dp m bs op pw lx ly MX MY rl r D ta (fun MX' MY' => Qc (gI MX' 386) MY' ∧ stepf (gI MX' 386) = 0) (loopN (gBody n0 stepf g) (fun _ _ _ => none) w x1 (nI j) MXc) ∨ Bad n0 s qf b c0 dp m ly MX MY (loopN (gBody n0 stepf g) (fun _ _ _ => none) w x1 (nI j) MXc) := by
  intro w
  induction w with
  | zero =>
    intro j MXc MYc sc k δ R lyc hS hq hj hw
    have := (hS.len h).2.2.2
    omega
  | succ w ih =>
    intro j MXc MYc sc k δ R lyc hS hq hj hw
    have hsc := (hS.len h).2.2.2
    rw [lpS, gBody]
    by_cases hst : stepf (gI MXc 386) = 0
    · left
      refine ⟨MXc, MYc, sc, k, δ, R, lyc, ?_, hS, hq, hst⟩
      by_cases g1 : (1600 : Int32) ≤ nI j
      · exact eq_t g1 rfl
      · exact eq_f g1 (eq_t hst rfl)
    · have hjlt : j < 1600 := by
        rcases Nat.lt_or_ge j 1600 with q | q
        · exact q
        · exfalso
          have h1 := hS.2.2.2.1
          have h2 := h1.L16
          have h3 : ¬ gI MXc 386 = 259 := fun e => hst (by rw [e]; exact h259)
          have := h1.2.1.2.2.2.2.lt h3
          omega
      have g1 : ¬ (1600 : Int32) ≤ nI j := nI_ge (b := 1600) hjlt (by decide)
      obtain ⟨MX1, MY1, s1, hN, hE⟩ := hNx MXc MYc sc k δ R lyc hS hq hst
      obtain ⟨o1, o2, o3, o4⟩ := hop _ hst
      have hNN := hN
      obtain ⟨n1, n2, n3, n4, n5, n6, n7⟩ := hN
      rcases hIn s1 _ _ MX1 MY1 n4 (Or.inr trivial) hE with ⟨MX2, MY2, s2, k2, δ2, R2, ly2, er, hS2, hq2⟩ | hB
      · obtain ⟨ead, hS3⟩ := comb (rlc := rl) (tc := ta) (x := stepf (gI MXc 386)) hn h hS hNN hS2 o1 o2 ⟨o3, hr2⟩ hl o4 hD
        have hlen := List.length_append (as := ly) (bs := δ)
        have hqq := hQc MX1 MY1 MX2 MY2 hE (hS2.2.2.2.2.2.2.2.2.2.2.2.2.2.2.1.wk (by omega) (Nat.le_refl _) (by omega)) hq2
        have hg : gI (xAd qf (lx ++ exL δ ++ exL δ2).length (stepf (gI MXc 386)) MX2) 386 = gI MX2 386 := by
          have hq' := h.2.2.1
          unfold xAd
          rw [gI_ne (by omega)]
          rfl
        have hs3 := hS2.2.2.1
        have hr := ih (j + 1) _ MY2 s2 _ _ _ _ hS3 (by rw [hg]; exact hqq) (by omega) (by omega)
        refine Ok.nrm hr (fun v M _ e => ?_)
        exact eq_f g1 (eq_f hst (eq_b n1 (eq_b er (eq_f i10 (eq_b ead (by rw [nI_1]; exact e))))))
      · right
        have hlen := List.length_append (as := ly) (bs := δ)
        obtain ⟨a1, a2, a3, a4, a5, a6, a7, a8, a9, a10, a11, a12, a13, a14, a15, a16⟩ := hS
        refine badUp (k1 := 1 + k) (fun w => by rw [← Nat.add_assoc, a1, n2]) (by omega) (a14.tr n7.p) (a15.tr n6) (by omega) (Nat.le_refl _) (by omega) hB (fun M e => ?_)
        exact eq_f g1 (eq_f hst (eq_b n1 (eq_b e (eq_t rfl rfl))))
def pstep (k : Int32) : Int32 := if k = 37 then -11 else if k = 42 then -9 else if k = 47 then -10 else 0
def sstep (k : Int32) : Int32 := if k = 43 then -7 else if k = 45 then -8 else 0
theorem xpstep {n0 : Nat} {M : Mem} : fX3_productStep n0 M = some (pstep (gI M 386), M) := by
  unfold fX3_productStep pstep
  by_cases g1 : gI M 386 = 37
  · rw [if_pos g1, if_pos g1]
  rw [if_neg g1, if_neg g1]
  by_cases g2 : gI M 386 = 42
  · rw [if_pos g2, if_pos g2]
  rw [if_neg g2, if_neg g2]
  by_cases g3 : gI M 386 = 47
  · rw [if_pos g3, if_pos g3]
  rw [if_neg g3, if_neg g3]
theorem xsstep {n0 : Nat} {M : Mem} : fX3_sumStep n0 M = some (sstep (gI M 386), M) := by
  unfold fX3_sumStep sstep
  by_cases g1 : gI M 386 = 43
  · rw [if_pos g1, if_pos g1]
  rw [if_neg g1, if_neg g1]
  by_cases g2 : gI M 386 = 45
  · rw [if_pos g2, if_pos g2]
  rw [if_neg g2, if_neg g2]
theorem pstep_k {k : Int32} (h : ¬ pstep k = 0) : k = 37 ∨ k = 42 ∨ k = 47 := by
  unfold pstep at h
  by_cases g1 : k = 37
  · exact Or.inl g1
  rw [if_neg g1] at h
  by_cases g2 : k = 42
  · exact Or.inr (Or.inl g2)
  rw [if_neg g2] at h
  by_cases g3 : k = 47
  · exact Or.inr (Or.inr g3)
  rw [if_neg g3] at h
  exact absurd rfl h
theorem sstep_k {k : Int32} (h : ¬ sstep k = 0) : k = 43 ∨ k = 45 := by
  unfold sstep at h
  by_cases g1 : k = 43
  · exact Or.inl g1
  rw [if_neg g1] at h
  by_cases g2 : k = 45
  · exact Or.inr g2
  rw [if_neg g2] at h
  exact absurd rfl h
theorem gb_prod {n0 : Nat} {rec : Nat → Int32 → Int32 → Mem → Option (Int32 × Mem)} {x1 : Int32} (k : Int32 → Int32 → Mem → Option (Int32 × Mem)) (x2 : Int32) (M : Mem) : bX3_readProduct_12 n0 rec k x1 x2 M = gBody n0 pstep (fun M => rec 2 x1 0 M) k x1 x2 M := by
  unfold bX3_readProduct_12 gBody
  by_cases g1 : (1600 : Int32) ≤ x2
  · rw [if_pos g1, if_pos g1]
  rw [if_neg g1, if_neg g1]
  refine eq_b xpstep ?_
  by_cases g2 : pstep (gI M 386) = 0
  · exact eq_t g2 (if_pos g2).symm
  exact eq_f g2 (eq_b xpstep (if_neg g2).symm)
theorem gb_sum {n0 : Nat} {rec : Nat → Int32 → Int32 → Mem → Option (Int32 × Mem)} {x1 : Int32} (k : Int32 → Int32 → Mem → Option (Int32 × Mem)) (x2 : Int32) (M : Mem) : bX3_readSum_12 n0 rec k x1 x2 M = gBody n0 sstep (fun M => rec 1 x1 0 M) k x1 x2 M := by
  unfold bX3_readSum_12 gBody
  by_cases g1 : (1600 : Int32) ≤ x2
  · rw [if_pos g1, if_pos g1]
  rw [if_neg g1, if_neg g1]
  refine eq_b xsstep ?_
  by_cases g2 : sstep (gI M 386) = 0
  · exact eq_t g2 (if_pos g2).symm
  exact eq_f g2 (eq_b xsstep (if_neg g2).symm)
/-- loops whose bodies agree at one first argument -/
theorem loop_ext1 {F G : (Int32 → Int32 → Mem → Option (Int32 × Mem)) → Int32 → Int32 → Mem → Option (Int32 × Mem)} {z : Int32 → Int32 → Mem → Option (Int32 × Mem)} {x1 : Int32} (h : ∀ k x2 M, F k x1 x2 M = G k x1 x2 M) (hG : ∀ k k' x2 M, (∀ y N, k x1 y N = k' x1 y N) → G k x1 x2 M = G k' x1 x2 M) : ∀ w x2 M, loopN F z w x1 x2 M = loopN G z w x1 x2 M
  | 0, _, _ => rfl
  | w + 1, x2, M => by
    show F (loopN F z w) x1 x2 M = G (loopN G z w) x1 x2 M
    rw [h]
    exact hG _ _ _ _ (fun y N => loop_ext1 h hG w y N)
theorem gBody_k {n0 : Nat} {stepf : Int32 → Int32} {g : Mem → Option (Int32 × Mem)} {x1 : Int32} (k k' : Int32 → Int32 → Mem → Option (Int32 × Mem)) (x2 : Int32) (M : Mem) (h : ∀ y N, k x1 y N = k' x1 y N) : gBody n0 stepf g k x1 x2 M = gBody n0 stepf g k' x1 x2 M := by
  unfold gBody
  simp only [h]
def SProd (n0 L b c0 op : Nat) (g : Mem → Option (Int32 × Mem)) : Prop := ∀ s qf dp m bs pw lx ly MX MY, En L s qf b c0 dp m bs op pw lx ly MX MY → NF dp MX MY → (m = bs ∨ rkI (gA MY 26 (m - 1)) < 6) → m ≤ 30 * op + 5 → Ok n0 L s qf b c0 dp m bs op pw lx ly MX MY 1 6 (DP op + 1) false (fun MX' MY' => QPart dp MY MX' MY' ∧ pstep (gI MX' 386) = 0) (g MX) ∨ Bad n0 s qf b c0 dp m ly MX MY (g MX)
theorem St.wk {n0 L s qf b c0 dp m bs op pw rl r D rl' r' D' : Nat} {t : Bool} {lx : List Int32} {ly : List (Int32 × Int32)} {MX MY MX' MY' : Mem} {s' k : Nat} {δ : List (Int32 × Int32)} {R : List Int32} {ly' : List (Int32 × Int32)} (h : St n0 L s qf b c0 dp m bs op pw lx ly MX MY rl r D t MX' MY' s' k δ R ly') (h1 : rl ≤ rl') (h2 : r' ≤ r) (h3 : D ≤ D') : St n0 L s qf b c0 dp m bs op pw lx ly MX MY rl' r' D' t MX' MY' s' k δ R ly' := by
  obtain ⟨a1, a2, a3, a4, a5, a6, a7, a8, a9, a10, a11, a12, a13, a14, a15, a16⟩ := h
  exact ⟨a1, a2, a3, a4, a5, a6, a7, fun o ho => Nat.le_trans h2 (a8 o ho), by omega, a10, a11, fun st hst => a12 st (by omega), a13, a14, a15, a16⟩
theorem prodP {n0 L b c0 op : Nat} {rec : Nat → Int32 → Int32 → Mem → Option (Int32 × Mem)} (hn : 1601 ≤ n0) (hP : SPart n0 L b c0 op (fun _ => True) (fun M => rec 2 (nI op) 0 M)) : SProd n0 L b c0 op (fun M => fX3_readProduct n0 rec (nI op) M) := by
  intro s qf dp m bs pw lx ly MX MY h hN hoc hm
  have hbs := h.2.2.2.2.1.2.2.2.2.2.1
  have hop7 : op ≤ 7 := h.2.2.2.2.1.2.2.2.2.2.2.2.2.2.2.2.2
  have hdp := h.2.2.2.2.1.2.2.2.1
  show Ok n0 L s qf b c0 dp m bs op pw lx ly MX MY 1 6 (DP op + 1) false (fun MX' MY' => QPart dp MY MX' MY' ∧ pstep (gI MX' 386) = 0) (fX3_readProduct n0 rec (nI op) MX) ∨ Bad n0 s qf b c0 dp m ly MX MY (fX3_readProduct n0 rec (nI op) MX)
  unfold fX3_readProduct fX3_readProduct_12
  rcases hP s qf dp m bs pw lx ly MX MY h trivial hN (by omega) with ⟨MX1, MY1, s1, k1, δ, R, ly1, er, hS, hq⟩ | ⟨MXf, MYf, kk, er, hB⟩
  rotate_left
  · exact Or.inr ⟨MXf, MYf, kk, eq_b er (eq_t rfl rfl), hB⟩
  have key := binL (x1 := nI op) (rl := 1) (r := 6) (D := DP op + 1) (rl2 := 0) (r2 := 6) (D2 := DP op) (ta := false) (tb := false) pstep opOf (fun M => rec 2 (nI op) 0 M) (fun _ MYc => gA MYc 22 (dp - 1) = gA MY 22 (dp - 1) ∧ gA MYc 23 (dp - 1) = 0) (fun _ MY1 => gA MY1 22 (dp - 1) = gA MY 22 (dp - 1) ∧ gA MY1 23 (dp - 1) = 0) (fun MY1 MX2 MY2 => QPart dp MY1 MX2 MY2) hn h
    (fun MXc MYc sc k δ R lyc hS hqc hst => by
      have hk := pstep_k hst
      have hl : (6 : Nat) = if gI MXc 386 = 43 ∨ gI MXc 386 = 45 then 5 else 6 := by rcases hk with q | q | q <;> rw [q] <;> decide
      obtain ⟨MX1, MY1, s1, hN', e1, e2⟩ := nxA (least := 6) hn h hS (by rcases hk with q | q | q <;> rw [q] <;> decide) hl (Nat.le_refl _) (by rw [hqc.1]; exact hN.2) (by omega) hoc (by omega)
      exact ⟨MX1, MY1, s1, hN', e1.trans hqc.1, e2.trans hqc.2⟩)
    (fun s1 lx1 ly1 MX1 MY1 hE _ hE2 => hP s1 qf dp (m + 1) bs (pw + 1) lx1 ly1 MX1 MY1 hE trivial ⟨Or.inr (Or.inl hE2.2), by rw [hE2.1]; exact hN.2⟩ (by omega))
    (fun MX1 MY1 MX2 MY2 hE2 _ hq2 => ⟨hq2.1.trans hE2.1, hq2.2⟩)
    (fun k hk => by
      rcases pstep_k hk with q | q | q
      · rw [q]; exact ⟨by decide, by decide, by decide, fun st => rfl⟩
      · rw [q]; exact ⟨by decide, by decide, by decide, fun st => rfl⟩
      · rw [q]; exact ⟨by decide, by decide, by decide, fun st => rfl⟩) (by decide) (Nat.le_refl _) (by decide) (Nat.le_refl _) n0 0 MX1 MY1 s1 k1 δ R ly1 (hS.wk (by decide) (Nat.le_refl _) (by omega)) hq (Nat.zero_le _) (by omega)
  refine Ok.nrm key (fun v M _ e => eq_b er (eq_f i10 ?_))
  rw [show (0 : Int32) = nI 0 from rfl, loop_ext1 (G := gBody n0 pstep (fun M => rec 2 (nI op) 0 M)) (fun k x2 M => gb_prod k x2 M) (fun k k' x2 M hk => gBody_k k k' x2 M hk)]
  exact e
theorem sumP {n0 L b c0 op : Nat} {rec : Nat → Int32 → Int32 → Mem → Option (Int32 × Mem)} (hn : 1601 ≤ n0) (hP : SProd n0 L b c0 op (fun M => rec 1 (nI op) 0 M)) : SSum n0 L b c0 op (fun M => fX3_readSum n0 rec (nI op) M) := by
  intro s qf dp m bs pw lx ly MX MY h hN hoc hm
  have hbs := h.2.2.2.2.1.2.2.2.2.2.1
  have hop7 : op ≤ 7 := h.2.2.2.2.1.2.2.2.2.2.2.2.2.2.2.2.2
  have hdp := h.2.2.2.2.1.2.2.2.1
  show Ok n0 L s qf b c0 dp m bs op pw lx ly MX MY 2 5 (DP op + 2) false (QSum dp MY) (fX3_readSum n0 rec (nI op) MX) ∨ Bad n0 s qf b c0 dp m ly MX MY (fX3_readSum n0 rec (nI op) MX)
  unfold fX3_readSum fX3_readSum_12
  rcases hP s qf dp m bs pw lx ly MX MY h hN (by rcases hoc with q | q; exact Or.inl q; exact Or.inr (by omega)) (by omega) with ⟨MX1, MY1, s1, k1, δ, R, ly1, er, hS, hq⟩ | ⟨MXf, MYf, kk, er, hB⟩
  rotate_left
  · exact Or.inr ⟨MXf, MYf, kk, eq_b er (eq_t rfl rfl), hB⟩
  have key := binL (x1 := nI op) (rl := 2) (r := 5) (D := DP op + 2) (rl2 := 1) (r2 := 6) (D2 := DP op + 1) (ta := false) (tb := false) sstep opOf (fun M => rec 1 (nI op) 0 M) (fun kd MYc => (gA MYc 22 (dp - 1) = gA MY 22 (dp - 1) ∧ gA MYc 23 (dp - 1) = 0) ∧ pstep kd = 0) (fun _ MY1 => (gA MY1 22 (dp - 1) = gA MY 22 (dp - 1) ∧ gA MY1 23 (dp - 1) = 0) ∧ rkI (gA MY1 26 m) < 6) (fun MY1 MX2 MY2 => QPart dp MY1 MX2 MY2 ∧ pstep (gI MX2 386) = 0) hn h
    (fun MXc MYc sc k δ R lyc hS hqc hst => by
      have hk := sstep_k hst
      have hl : (5 : Nat) = if gI MXc 386 = 43 ∨ gI MXc 386 = 45 then 5 else 6 := by rcases hk with q | q <;> rw [q] <;> decide
      obtain ⟨MX1, MY1, s1, hN', e1, e2⟩ := nxA (least := 5) hn h hS (by rcases hk with q | q <;> rw [q] <;> decide) hl (Nat.le_refl _) (by rw [hqc.1.1]; exact hN.2) (by omega) hoc (by omega)
      refine ⟨MX1, MY1, s1, hN', ⟨e1.trans hqc.1.1, e2.trans hqc.1.2⟩, ?_⟩
      rw [hN'.2.2.2.2.1]
      rcases hk with q | q <;> rw [q] <;> decide)
    (fun s1 lx1 ly1 MX1 MY1 hE _ hE2 => hP s1 qf dp (m + 1) bs (pw + 1) lx1 ly1 MX1 MY1 hE ⟨Or.inr (Or.inl hE2.1.2), by rw [hE2.1.1]; exact hN.2⟩ (Or.inr (by rw [Nat.add_sub_cancel]; exact hE2.2)) (by omega))
    (fun MX1 MY1 MX2 MY2 hE2 _ hq2 => ⟨⟨hq2.1.1.trans hE2.1.1, hq2.1.2⟩, hq2.2⟩)
    (fun k hk => by
      rcases sstep_k hk with q | q
      · rw [q]; exact ⟨by decide, by decide, by decide, fun st => rfl⟩
      · rw [q]; exact ⟨by decide, by decide, by decide, fun st => rfl⟩) (by decide) (by decide) (by decide) (Nat.le_refl _) n0 0 MX1 MY1 s1 k1 δ R ly1 (hS.wk (by decide) (by decide) (by omega)) hq (Nat.zero_le _) (by omega)
  have key2 : Ok n0 L s qf b c0 dp m bs op pw lx ly MX MY 2 5 (DP op + 2) false (QSum dp MY) (loopN (gBody n0 sstep (fun M => rec 1 (nI op) 0 M)) (fun _ _ _ => none) n0 (nI op) (nI 0) MX1) ∨ Bad n0 s qf b c0 dp m ly MX MY (loopN (gBody n0 sstep (fun M => rec 1 (nI op) 0 M)) (fun _ _ _ => none) n0 (nI op) (nI 0) MX1) := by
    rcases key with ⟨A, B, C, D', E', F', G', q1, q2, q3, q4⟩ | q
    · refine Or.inl ⟨A, B, C, D', E', F', G', q1, q2, q3.1, fun g => ?_⟩
      have p0 := q3.2
      rcases g with g | g | g | g | g <;> (rw [g] at p0 q4; revert p0 q4; decide)
    · exact Or.inr q
  refine Ok.nrm key2 (fun v M _ e => eq_b er (eq_f i10 ?_))
  rw [show (0 : Int32) = nI 0 from rfl, loop_ext1 (G := gBody n0 sstep (fun M => rec 1 (nI op) 0 M)) (fun k x2 M => gb_sum k x2 M) (fun k k' x2 M hk => gBody_k k k' x2 M hk)]
  exact e
end
section
/-! SUMS AND TESTS: FACT, BOTH, TEST -/
def cstep (k : Int32) : Int32 := if k = 60 then -15 else if k = 61 then -17 else if k = 62 then -16 else 0
theorem xcstep {n0 : Nat} {M : Mem} : fX3_comparisonStep n0 M = some (cstep (gI M 386), M) := by
  unfold fX3_comparisonStep cstep
  by_cases g1 : gI M 386 = 60
  · rw [if_pos g1, if_pos g1]
  rw [if_neg g1, if_neg g1]
  by_cases g2 : gI M 386 = 61
  · rw [if_pos g2, if_pos g2]
  rw [if_neg g2, if_neg g2]
  by_cases g3 : gI M 386 = 62
  · rw [if_pos g3, if_pos g3]
  rw [if_neg g3, if_neg g3]
theorem cstep_k {k : Int32} (h : ¬ cstep k = 0) : k = 60 ∨ k = 62 ∨ k = 61 := by
  unfold cstep at h
  by_cases g1 : k = 60
  · exact Or.inl g1
  rw [if_neg g1] at h
  by_cases g2 : k = 61
  · exact Or.inr (Or.inr g2)
  rw [if_neg g2] at h
  by_cases g3 : k = 62
  · exact Or.inr (Or.inl g3)
  rw [if_neg g3] at h
  exact absurd rfl h
def SCmp (n0 L b c0 op : Nat) (g : Mem → Option (Int32 × Mem)) : Prop := ∀ s qf dp m bs pw lx ly MX MY, En L s qf b c0 dp m bs op pw lx ly MX MY → isT (gA MY 21 (dp - 1)) → gA MY 22 (dp - 1) = 0 → (¬ gI MX 386 = 281 ∧ ¬ gI MX 386 = 91 ∧ ¬ gI MX 386 = 282) → (m = bs ∨ rkI (gA MY 26 (m - 1)) < 5) → m ≤ 30 * op + 3 → Ok n0 L s qf b c0 dp m bs op pw lx ly MX MY 3 4 (DP op + 3) true (QFact dp) (g MX) ∨ Bad n0 s qf b c0 dp m ly MX MY (g MX)
def SFact (n0 L b c0 op : Nat) (g : Mem → Option (Int32 × Mem)) : Prop := ∀ s qf dp m bs pw lx ly MX MY, En L s qf b c0 dp m bs op pw lx ly MX MY → TPre dp MY → (m = bs ∨ rkI (gA MY 26 (m - 1)) < 5) → m ≤ 30 * op + 2 → Ok n0 L s qf b c0 dp m bs op pw lx ly MX MY (3 + (7 - op)) 3 (DP op + 3) true (QFact dp) (g MX) ∨ Bad n0 s qf b c0 dp m ly MX MY (g MX)
def SBoth (n0 L b c0 op : Nat) (g : Mem → Option (Int32 × Mem)) : Prop := ∀ s qf dp m bs pw lx ly MX MY, En L s qf b c0 dp m bs op pw lx ly MX MY → TPre dp MY → (m = bs ∨ rkI (gA MY 26 (m - 1)) < 2) → m ≤ 30 * op + 1 → Ok n0 L s qf b c0 dp m bs op pw lx ly MX MY (4 + (7 - op)) 2 (DP op + 4) true (fun MX' MY' => QFact dp MX' MY' ∧ ¬ gI MX' 386 = 280) (g MX) ∨ Bad n0 s qf b c0 dp m ly MX MY (g MX)
theorem cmpP {n0 L b c0 op : Nat} {rec : Nat → Int32 → Int32 → Mem → Option (Int32 × Mem)} (hn : 1601 ≤ n0) (hS0 : SSum n0 L b c0 op (fun M => rec 0 (nI op) 0 M)) : SCmp n0 L b c0 op (fun M => fX3_readComparison n0 rec (nI op) M) := by
  intro s qf dp m bs pw lx ly MX MY h hT hph hkd hoc hm
  have hop7 : op ≤ 7 := h.2.2.2.2.1.2.2.2.2.2.2.2.2.2.2.2.2
  show Ok n0 L s qf b c0 dp m bs op pw lx ly MX MY 3 4 (DP op + 3) true (QFact dp) (fX3_readComparison n0 rec (nI op) MX) ∨ Bad n0 s qf b c0 dp m ly MX MY (fX3_readComparison n0 rec (nI op) MX)
  unfold fX3_readComparison
  rcases hS0 s qf dp m bs pw lx ly MX MY h ⟨Or.inr (Or.inr hkd), by rw [hph]; decide⟩ hoc (by omega) with ⟨MX1, MY1, s1, k1, δ, R, ly1, er, hS, hq⟩ | ⟨MXf, MYf, kk, er, hB⟩
  rotate_left
  · exact Or.inr ⟨MXf, MYf, kk, eq_b er (eq_t rfl rfl), hB⟩
  have hlen := hS.len h
  have hSS := hS
  obtain ⟨a1, a2, a3, a4, a5, a6, a7, a8, a9, a10, a11, a12, a13, a14, a15, a16⟩ := hS
  have hT1 : isT (gA MY1 21 (dp - 1)) := by
    have hdp := a6.2.2.2.1
    rw [a15.2.1 21 (dp - 1) (by unfold pReg; omega)]; exact hT
  have hph1 : gA MY1 22 (dp - 1) = 0 := hq.1.1.trans hph
  by_cases hc : cstep (gI MX1 386) = 0
  · right
    refine badGo (p := gI MX1 388) a1 a2 hlen.2.2.2 a14 a15 a11 (eq_b er (eq_f i10 (eq_b xcstep (eq_t hc (eq_b xfailH (eq_t (Or.inl rfl) rfl)))))) ?_
    by_cases h8 : gI MX1 386 = 258
    · exact ygoB a4 h8
    · rw [a4.pl h8]
      refine ygoT0 a4 h8 hq.2 ⟨fun e => ?_, fun e => ?_, fun e => ?_⟩ hT1 hph1 a6.2.2.1 a6.2.2.2.1 <;> (rw [e] at hc; revert hc; decide)
  have hk := cstep_k hc
  obtain ⟨MX2, MY2, s2, hN, e1, e2⟩ := nxC hn h hSS hk (Nat.le_refl _) hT1 hph1 (by omega) hoc
  have hNN := hN
  obtain ⟨n1, n2, n3, n4, n5, n6, n7⟩ := hN
  rcases hS0 s2 qf dp (m + 1) bs (pw + 1) _ _ MX2 MY2 n4 ⟨Or.inr (Or.inl (e2.trans hq.1.2)), by rw [e1]; decide⟩ (Or.inr (by rw [Nat.add_sub_cancel, n5]; rcases hk with q | q | q <;> rw [q] <;> decide)) (by omega) with ⟨MX3, MY3, s3, k3, δ2, R2, ly3, er3, hS3, hq3⟩ | hB
  · left
    have hprop : ¬ cmOf (gI MX1 386) = 43 ∧ ex1 (cmOf (gI MX1 386), 0) = [cstep (gI MX1 386)] ∧ 4 ≤ rkI (cmOf (gI MX1 386)) ∧ ∀ st : List Bool, ty1 (cmOf (gI MX1 386), 0) (false :: false :: st) = some (true :: st) := by
      rcases hk with q | q | q <;> rw [q] <;> exact ⟨by decide, by decide, by decide, fun st => rfl⟩
    obtain ⟨ead, hS4⟩ := comb (rlc := 3) (tc := true) (x := cstep (gI MX1 386)) hn h (hSS.wk (rl' := 3) (r' := 4) (D' := DP op + 3) (by decide) (by decide) (by omega)) hNN hS3 hprop.1 hprop.2.1 ⟨hprop.2.2.1, by decide⟩ (by decide) hprop.2.2.2 (Nat.le_refl _)
    refine ⟨_, MY3, s3, _, _, _, _, ?_, hS4, Or.inr ⟨hq3.1.1.trans e1, ?_⟩⟩
    · have e3 : fX3_add n0 (cstep (gI MX1 386)) MX3 = some (1, xAd qf (lx ++ exL δ ++ exL δ2).length (cstep (gI MX1 386)) MX3) := by
        unfold fX3_add
        exact eq_b ead rfl
      exact eq_b er (eq_f i10 (eq_b xcstep (eq_f hc (eq_b n1 (eq_b er3 (eq_f i10 (eq_b e3 (eq_f i10 rfl))))))))
    · have hq' := h.2.2.1
      have hg : gI (xAd qf (lx ++ exL δ ++ exL δ2).length (cstep (gI MX1 386)) MX3) 386 = gI MX3 386 := by
        unfold xAd
        rw [gI_ne (by omega)]
        rfl
      rw [hg]
      exact hq3.2
  · right
    have hl := List.length_append (as := ly) (bs := δ)
    refine badUp (k1 := 1 + k1) (fun w => by rw [← Nat.add_assoc, a1, n2]) (by omega) (a14.tr n7.p) (a15.tr n6) (by omega) (Nat.le_refl _) (by omega) hB (fun M e => ?_)
    exact eq_b er (eq_f i10 (eq_b xcstep (eq_f hc (eq_b n1 (eq_b e (eq_t rfl rfl))))))
/-- the memory behind a 'not' that is held back -/
theorem pushNot {n0 b c0 dp m bs op : Nat} {ly : List (Int32 × Int32)} {M : Mem} (h : YP b c0 dp m bs op [] ly M) (h7 : op < 7) (hm : m < 399) : fX12_holdsBack n0 43 (sI M 42 (nI (op + 1))) = some (yPush (sI M 42 (nI (op + 1))) m 43) ∧ YP b c0 dp (m + 1) bs (op + 1) [] ly (yPush (sI M 42 (nI (op + 1))) m 43) ∧ gA (yPush (sI M 42 (nI (op + 1))) m 43) 26 m = 43 := by
  obtain ⟨h1, h2, h3, h4, h5, h6, h7', h8, h9, h10, h11, h12, h13⟩ := h
  have e44 : gI (sI M 42 (nI (op + 1))) 44 = nI m := by rw [gI_ne (by decide)]; exact h7'
  refine ⟨?_, ⟨?_, h2, ?_, h4, ?_, by omega, ?_, trivial, by simp; omega, ?_, ?_, ?_, ?_⟩, ?_⟩
  · unfold fX12_holdsBack yPush
    refine eq_f (by rw [e44]; exact nI_in (by omega) (by decide)) (eq_n ?_)
    simp only [gI_sA, e44, nI_clamp (show m < 2 ^ 31 by omega), nI_1]
  · unfold yPush; rw [gI_ne (by decide)]; show gI (sI M 42 (nI (op + 1))) 34 = _; rw [gI_ne (by decide)]; exact h1
  · unfold yPush; rw [gI_ne (by decide)]; show gI (sI M 42 (nI (op + 1))) 41 = _; rw [gI_ne (by decide)]; exact h3
  · unfold yPush; show gA (sA (sI M 42 (nI (op + 1))) 26 m 43) 25 _ = _; rw [gA_sA_ne (by decide)]; exact h5
  · unfold yPush; rw [gI_at]; rfl
  · unfold yPush; rw [gI_ne (by decide)]; show gI (sI M 42 (nI (op + 1))) 33 = _; rw [gI_ne (by decide)]; exact h10
  · refine h11.cong (fun i _ => ⟨?_, ?_⟩)
    · unfold yPush; show gA (sA (sI M 42 (nI (op + 1))) 26 m 43) 16 _ = _; rw [gA_sA_ne (by decide)]; rfl
    · unfold yPush; show gA (sA (sI M 42 (nI (op + 1))) 26 m 43) 17 _ = _; rw [gA_sA_ne (by decide)]; rfl
  · unfold yPush; rw [gI_ne (by decide)]; show gI (sI M 42 (nI (op + 1))) 42 = _; rw [gI_at]; rfl
  · have : nots ([] : List Int32) = 0 := rfl
    omega
  · unfold yPush; show gA (sA (sI M 42 (nI (op + 1))) 26 m 43) 26 m = _; rw [gA_sA, if_pos rfl, if_pos rfl]
theorem factP {n0 L b c0 op : Nat} {rec : Nat → Int32 → Int32 → Mem → Option (Int32 × Mem)} (hn : 1601 ≤ n0) (hCmp : SCmp n0 L b c0 op (fun M => rec 8 (nI op) 0 M)) (hTest : op < 7 → STest n0 L b c0 (op + 1) (fun M => rec 5 (nI (op + 1)) 0 M)) (hFact : op < 7 → SFact n0 L b c0 (op + 1) (fun M => rec 7 (nI (op + 1)) 0 M)) : SFact n0 L b c0 op (fun M => fX3_readFact n0 rec (nI op) M) := by
  intro s qf dp m bs pw lx ly MX MY h hTP hoc hm
  have hh := h
  obtain ⟨hP, h257, hq, hxl, hYP, h258, hdo, hmp, hcs, hll, h45⟩ := h
  have hop7 : op ≤ 7 := hYP.2.2.2.2.2.2.2.2.2.2.2.2
  have hdp := hYP.2.2.2.1
  have hbg : ¬ gA MY 23 (dp - 1) = 0 := by rw [hTP.2.2]; decide
  have e42 : gI MY 42 = nI op := hYP.2.2.2.2.2.2.2.2.2.2.2.1
  have hL16 := hP.L16
  show Ok n0 L s qf b c0 dp m bs op pw lx ly MX MY (3 + (7 - op)) 3 (DP op + 3) true (QFact dp) (fX3_readFact n0 rec (nI op) MX) ∨ Bad n0 s qf b c0 dp m ly MX MY (fX3_readFact n0 rec (nI op) MX)
  unfold fX3_readFact
  by_cases k91 : gI MX 386 = 91
  · rw [if_pos k91]
    have hP1 : PR L s MX (sA MY 23 (dp - 1) 0) := hP.ar (by decide)
    have hY1 : YP b c0 dp m bs op [] ly (sA MY 23 (dp - 1) 0) := hYP.cong (fun k _ => rfl) (fun a ha => gA_sA_ne (by omega))
    have f1 : FP b (c0 + ly.length) dp m MY (sA MY 23 (dp - 1) 0) := FP.r.a (by unfold pReg; omega)
    have hy := yopBr (n0 := n0) hP k91 hYP.2.2.1 hdp hTP.1 hbg
    have hs := hP.2.1.2.2.2.2.lt (by rw [k91]; decide)
    by_cases h7 : op = 7
    · right
      refine badOp (k := 5) (r := 0) (p := nI s) (M1 := sA MY 23 (dp - 1) 0) hh (by decide) (by decide) (Or.inl rfl) ?_ f1 (hy.trans (eq_b (opF hP1 (by show gI MY 42 = 7; rw [e42, h7]; rfl)) rfl))
      refine eq_b (xgo5 h7 k91) (eq_t rfl ?_)
      show some ((0 : Int32), sI (sI MX 391 5) 392 (gI MX 387)) = _
      rw [hP.st]
      rfl
    have h7' : op < 7 := by omega
    obtain ⟨MX1, M', s1, ax, eo, hs1, m8, m41, hE1, fx1, fp1, k21, k22, k23, p22, p23⟩ := openEn (kk := 5) (fun M => M) hn hh hP1 (Nat.le_refl s) FI.r hY1 f1 hs h7' (fun _ _ => rfl) (fun _ => rfl) (fun _ _ _ => rfl) (fun _ => FP.r)
    have hw1 : ∀ w, YLp n0 (w + 1) MY = YLp n0 w (sI M' 45 0) := fun w => ylop h45 (Or.inl rfl) (hy.trans (eq_b eo rfl)) m8
    have xg := xgo1 (n0 := n0) h7' k91 ax
    have tp : TPre (dp + 1) (sI M' 45 0) := by
      unfold TPre
      rw [Nat.add_sub_cancel]
      show isT (gA M' 21 dp) ∧ gA M' 22 dp = 0 ∧ gA M' 23 dp = 1
      rw [k21, k22, k23]
      decide
    rcases hTest h7' s1 qf (dp + 1) m m pw lx ly MX1 (sI M' 45 0) hE1 tp rfl (by omega) with ⟨MX2, MY2, s2, k2, δ, R, ly2, er, hS, hQ⟩ | hB
    rotate_left
    · right
      refine badUp (k1 := 1) hw1 (by omega) fx1 fp1 (Nat.le_refl _) (by omega) (Nat.le_refl _) hB (fun M e => ?_)
      exact eq_b xg (eq_f i10 (eq_b (by rw [nI_1]; exact e) (eq_t rfl rfl)))
    have er' : rec 5 (nI op + (1 : Int32)) 0 MX1 = some (1, MX2) := by rw [nI_1]; exact er
    have hSS := hS
    obtain ⟨hlen1, hlen2, hlen3, hlen4⟩ := hS.len hE1
    obtain ⟨a1, a2, a3, a4, a5, a6, a7, a8, a9, a10, a11, a12, a13, a14, a15, a16⟩ := hS
    have hQ1 : gA MY2 22 dp = 2 ∨ (gA MY2 22 dp = 1 ∧ ¬ ari (gI MX2 386)) := hQ.1
    have f21 : gA MY2 21 dp = 5 := (a15.2.1 21 dp (by unfold pReg; omega)).trans k21
    have fpA : FP b (c0 + ly.length) dp m MY MY2 := fp1.tr (a15.wk (Nat.le_refl _) (by omega) (Nat.le_refl _))
    have hwA : ∀ w, YLp n0 (w + (k2 + 1)) MY = YLp n0 w MY2 := fun w => by rw [← Nat.add_assoc, hw1, a1]
    have b25 : gA MY2 25 (dp - 1) = nI bs := (fpA.2.1 25 _ (by unfold pReg; omega)).trans hYP.2.2.2.2.1
    have np : ¬ gA MY2 22 dp = 0 := by
      rcases hQ1 with z | z
      · rw [z]; decide
      · rw [z.1]; decide
    by_cases hc : gI MX2 386 = 93
    · obtain ⟨MX3, MY3, s3, sk, hw3, hs3, hP3, yp3, g45, fx3, fp3, g22, g23⟩ := closeP (kf := 5) (bs := bs) hn hE1 hSS (by decide) f21 (Or.inr (Or.inr rfl)) hc (Or.inr np) hdp.1 b25 hYP.2.2.2.2.2.1
      left
      refine ⟨MX3, MY3, s3, 1 + (k2 + 1), δ, [], ly ++ δ, ?_, ⟨fun w => ?_, by omega, by omega, hP3, a5.fi fx3 hq, by simpa [xtra] using yp3, by simp [fl], fun o ho => by simp at ho, by simp, ?_, g45, fun st hst => a12 st (by unfold DP at hst ⊢; omega), a13, (fx1.tr a14).tr fx3.p, fpA.tr fp3, by simp⟩, Or.inl ?_⟩
      · exact eq_b xg (eq_f i10 (eq_b er' (eq_f i10 (eq_b sk (eq_f i10 rfl)))))
      · rw [← Nat.add_assoc, hwA, hw3]
      · omega
      · rw [g22, if_pos rfl]
    · right
      obtain ⟨sk, go⟩ := endBad (n0 := n0) (dq := dp + 1) (kf := 5) a4 (by rw [Nat.add_sub_cancel]; exact f21) (by decide) hc (by
        rw [Nat.add_sub_cancel]
        rcases hQ1 with z | z
        · exact Or.inr (by rw [z]; decide)
        · exact Or.inl z.2) (Or.inr (by rw [Nat.add_sub_cancel]; exact ⟨np, hQ.2.1, hQ.2.2⟩)) a6.2.2.1 a6.2.2.2.1
      refine badGo hwA (by omega) hlen4 (fx1.tr a14) fpA a11 ?_ go
      exact eq_b xg (eq_f i10 (eq_b er' (eq_f i10 (eq_b sk (eq_t rfl rfl)))))
  rw [if_neg k91]
  by_cases k281 : gI MX 386 = 281
  · rw [if_pos k281]
    obtain ⟨y7, yn⟩ := yopNot (n0 := n0) hP k281 hYP.2.2.1 hdp hTP.1 hbg
    have hs := hP.2.1.2.2.2.2.lt (by rw [k281]; decide)
    by_cases h7 : op = 7
    · right
      refine badOp (k := 5) (r := 1) (p := nI s) (M1 := MY) hh (by decide) (by decide) (Or.inr rfl) ?_ FP.r (y7 (by rw [e42, h7]; rfl))
      refine eq_b (xgo5 h7 k281) (eq_t rfl ?_)
      show some ((0 : Int32), sI (sI MX 391 5) 392 (gI MX 387)) = _
      rw [hP.st]
      rfl
    have h7' : op < 7 := by omega
    have n7 : ¬ gI MY 42 = 7 := by rw [e42]; exact fun q => by have := (nI_eq (a := op) (b := 7) (by omega) (by decide)).mp q; omega
    obtain ⟨eh, yph, h26⟩ := pushNot (n0 := n0) hYP h7' (by omega)
    have hPp : PR L s MX (yPush (sI MY 42 (nI (op + 1))) m 43) := (hP.in_ (by decide)).push
    obtain ⟨MX1, Ma, s1, ax, ay, hs1, hP1, fx, fy, h3⟩ := hPp.adv3 hn hs
    have s3 := h3 k281
    have fY := fy.Y
    have hy := yn n7
    rw [e42, nI_1] at hy
    have hw1 : ∀ w, YLp n0 (w + 1) MY = YLp n0 w (sI Ma 45 0) := fun w => ylop h45 (Or.inl rfl) (hy.trans (eq_b eh (eq_b ay rfl))) hP1.f8
    have hFP : FP b (c0 + ly.length) dp m MY (sI Ma 45 0) := (((FP.r.i (k := 42) (by unfold pInt; omega)).tr (yPush_FP (Nat.le_refl m))).tr fY.p).i (by unfold pInt; omega)
    have fx' : FI 386 392 MX MX1 := fx.wk (by decide) (by decide)
    have hE1 : En L s1 qf b c0 dp (m + 1) bs (op + 1) (pw + 2) lx ly MX1 (sI Ma 45 0) := ⟨hP1.in_ (by decide), by rw [fx'.R]; exact h257, hq, hxl.fi fx' hq, (yph.tok fY).cong (fun k hk => gI_ne (by omega)) (fun a _ => rfl), ⟨by rw [fx'.2 258 (by omega), h258.1, hFP.1 35 (by unfold pInt; omega)], by rw [fx'.2 258 (by omega)]; exact h258.2⟩, by omega, by omega, by omega, hll, gI_at⟩
    have ar : ∀ a i, a ≠ 26 → gA (sI Ma 45 0) a i = gA MY a i := fun a i ha => by
      show gA Ma a i = _
      rw [fY.2.1 a id]
      unfold yPush
      show gA (sA (sI MY 42 _) 26 m 43) a i = _
      rw [gA_sA_ne ha]
      rfl
    have o26 : gA (sI Ma 45 0) 26 m = 43 := by
      show gA Ma 26 m = _
      rw [fY.2.1 26 id]
      exact h26
    have xg := xgo1 (n0 := n0) h7' k281 ax
    rcases hFact h7' s1 qf dp (m + 1) bs (pw + 2) lx ly MX1 (sI Ma 45 0) hE1 ⟨by rw [ar _ _ (by decide)]; exact hTP.1, by rw [ar _ _ (by decide)]; exact hTP.2.1, by rw [ar _ _ (by decide)]; exact hTP.2.2⟩ (Or.inr (by rw [Nat.add_sub_cancel, o26]; decide)) (by omega) with ⟨MX2, MY2, s2, k2, δ, R, ly2, er, hS, hQ⟩ | hB
    rotate_left
    · right
      refine badUp (k1 := 1) hw1 (by omega) fx'.p hFP (Nat.le_refl _) (Nat.le_refl _) (by omega) hB (fun M e => ?_)
      exact eq_b xg (eq_f i10 (eq_b (by rw [nI_1]; exact e) (eq_t rfl rfl)))
    have er' : rec 7 (nI op + (1 : Int32)) 0 MX1 = some (1, MX2) := by rw [nI_1]; exact er
    obtain ⟨hlen1, hlen2, hlen3, hlen4⟩ := hS.len hE1
    obtain ⟨a1, a2, a3, a4, a5, a6, a7, a8, a9, a10, a11, a12, a13, a14, a15, a16⟩ := hS
    have g257 : gR MX2 257 = qf := by rw [a14.2.2, fx'.R]; exact h257
    have l1 : (lx ++ exL δ).length < 1600 := by omega
    have l2 : (lx ++ exL δ ++ [0]).length < 1600 := by rw [List.length_append]; simp; rw [List.length_append] at a10; omega
    have e1 := xaddE (n0 := n0) (x := 0) a5 g257 l1
    have x1 := (a5.ad (n0 := n0) (x := 0) l1).2
    have g257' : gR (xAd qf (lx ++ exL δ).length 0 MX2) 257 = qf := g257
    have e2 := xaddE (n0 := n0) (x := -17) x1 g257' l2
    have x2 := (x1.ad (n0 := n0) (x := -17) l2).2
    have m26 : gA MY2 26 m = 43 := (a15.2.1 26 m (by unfold pReg; omega)).trans o26
    have n43 : nots [(43 : Int32)] = 1 := rfl
    have eex : exL (δ ++ [(43, 0)]) = exL δ ++ [0, -17] := by rw [exL_app, exL_one]; rfl
    left
    refine ⟨xAd qf (lx ++ exL δ ++ [0]).length (-17) (xAd qf (lx ++ exL δ).length 0 MX2), MY2, s2, k2 + 1, δ ++ [(43, 0)], R ++ [43], ly2, ?_, ⟨fun w => ?_, by omega, by omega, (a4.xad hq).xad hq, ?_, ?_, ?_, ?_, ?_, ?_, a11, ?_, by simp, ((fx'.p.tr a14).tr xAd_FP).tr xAd_FP, hFP.tr (a15.wk (Nat.le_refl _) (Nat.le_refl _) (by omega)), a16⟩, ?_⟩
    · exact eq_b xg (eq_f i10 (eq_b er' (eq_f i10 (eq_b e1 (eq_f i10 (eq_b e2 (eq_f i10 rfl)))))))
    · rw [← Nat.add_assoc, hw1, a1]
    · rw [eex]
      have : lx ++ (exL δ ++ [0, -17]) = lx ++ exL δ ++ [0] ++ [-17] := by simp
      rw [this]
      exact x2
    · refine YP.down (R0 := [43]) (m := m) (op := op) ?_ ⟨m26, trivial⟩ hYP.2.2.2.2.2.1
      rw [n43]
      exact a6
    · rw [show fl (R ++ [43]) = fl R ++ [(43, 0)] by simp [fl], ← List.append_assoc, a7, List.append_assoc]
    · intro o ho
      rcases List.mem_append.mp ho with z | z
      · exact a8 o z
      · rw [List.mem_singleton] at z
        rw [z]
        decide
    · rw [List.length_append]
      simp only [List.length_cons, List.length_nil]
      omega
    · rw [eex]
      simp only [List.length_append, List.length_cons, List.length_nil] at a10 ⊢
      omega
    · intro st hst
      unfold DP at hst a12
      rw [tyL_app, a12 st (by omega)]
      show tyL [((43 : Int32), (0 : Int32))] (true :: st) = _
      rw [tyL_one]
      show (if st.length < 59 then some (true :: st) else none) = _
      rw [if_pos (by omega)]
    · have hg : gI (xAd qf (lx ++ exL δ ++ [0]).length (-17) (xAd qf (lx ++ exL δ).length 0 MX2)) 386 = gI MX2 386 := by
        unfold xAd
        rw [gI_ne (by omega)]
        show gI (sI (sA MX2 _ _ _) (128 * qf + 1) _) 386 = _
        rw [gI_ne (by omega)]
        rfl
      unfold QFact
      rw [hg]
      exact hQ
  rw [if_neg k281]
  by_cases k282 : gI MX 386 = 282
  · left
    have hs := hP.2.1.2.2.2.2.lt (by rw [k282]; decide)
    have hP1 : PR L s MX (sA MY 23 (dp - 1) 0) := hP.ar (by decide)
    have hY1 : YP b c0 dp m bs op [] ly (sA MY 23 (dp - 1) 0) := hYP.cong (fun k _ => rfl) (fun a ha => gA_sA_ne (by omega))
    have f1 : FP b (c0 + ly.length) dp m MY (sA MY 23 (dp - 1) 0) := FP.r.a (by unfold pReg; omega)
    have ya := (hY1.add (n0 := n0) (x := 30) (y := 0) (by omega)).2
    refine leafP (so := 30) (v := 0) (x := 1) (M1 := sA MY 23 (dp - 1) 0) (fun M => sA M 22 (dp - 1) 2) hn hh hs hP1 hY1 f1 ((hP1.add.ar (by decide)).xad hq) (ya.cong (fun k _ => rfl) (fun a ha => gA_sA_ne (by omega))) (FP.r.a (by unfold pReg; omega)) (yopAll hP k282 hYP.2.2.1 hdp hTP.1 hbg) (fun MX' e => eq_t k282 (eq_b e (eq_t (Or.inr rfl) rfl))) (by decide) (fun st hst => ?_) (by unfold DP; omega) (fun MX' MY' fY => Or.inl ?_)
    · show (if st.length < 60 then some (true :: st) else none) = _
      rw [if_pos hst]
    · show gA MY' 22 (dp - 1) = _
      rw [fY.2.1 22 id, gA_sA, if_pos rfl, if_pos rfl]
  rw [if_neg k282]
  rcases hCmp s qf dp m bs pw lx ly MX MY hh hTP.1 hTP.2.1 ⟨k281, k91, k282⟩ hoc (by omega) with ⟨A, B, C, D', E', F', G', q1, q2, q3⟩ | ⟨A, B, C, q1, q2⟩
  · exact Or.inl ⟨A, B, C, D', E', F', G', eq_b q1 (eq_t (Or.inr rfl) rfl), q2.wk (by omega) (by decide) (Nat.le_refl _), q3⟩
  · exact Or.inr ⟨A, B, C, eq_b q1 (eq_t (Or.inl rfl) rfl), q2⟩
end
section
/-! SUMS AND TESTS: BOTH, TEST; all of them by the depth of the class's recursion -/
def astep (k : Int32) : Int32 := if k = 280 then -18 else 0
def ostep (k : Int32) : Int32 := if k = 279 then -19 else 0
theorem astep_k {k : Int32} (h : ¬ astep k = 0) : k = 280 := by
  unfold astep at h
  by_cases g : k = 280
  · exact g
  · rw [if_neg g] at h; exact absurd rfl h
theorem ostep_k {k : Int32} (h : ¬ ostep k = 0) : k = 279 := by
  unfold ostep at h
  by_cases g : k = 279
  · exact g
  · rw [if_neg g] at h; exact absurd rfl h
theorem gb_both {n0 : Nat} {rec : Nat → Int32 → Int32 → Mem → Option (Int32 × Mem)} {x1 : Int32} (k : Int32 → Int32 → Mem → Option (Int32 × Mem)) (x2 : Int32) (M : Mem) : bX3_readBoth_12 n0 rec k x1 x2 M = gBody n0 astep (fun M => rec 7 x1 0 M) k x1 x2 M := by
  unfold bX3_readBoth_12 gBody
  by_cases g1 : (1600 : Int32) ≤ x2
  · rw [if_pos g1, if_pos g1]
  rw [if_neg g1, if_neg g1]
  by_cases g2 : gI M 386 = 280
  · rw [if_pos g2, show astep (gI M 386) = -18 from if_pos g2]
    exact (if_neg (by decide)).symm
  · rw [if_neg g2, show astep (gI M 386) = 0 from if_neg g2]
    exact (if_pos rfl).symm
theorem gb_test {n0 : Nat} {rec : Nat → Int32 → Int32 → Mem → Option (Int32 × Mem)} {x1 : Int32} (k : Int32 → Int32 → Mem → Option (Int32 × Mem)) (x2 : Int32) (M : Mem) : bX3_readTest_12 n0 rec k x1 x2 M = gBody n0 ostep (fun M => rec 6 x1 0 M) k x1 x2 M := by
  unfold bX3_readTest_12 gBody
  by_cases g1 : (1600 : Int32) ≤ x2
  · rw [if_pos g1, if_pos g1]
  rw [if_neg g1, if_neg g1]
  by_cases g2 : gI M 386 = 279
  · rw [if_pos g2, show ostep (gI M 386) = -19 from if_pos g2]
    exact (if_neg (by decide)).symm
  · rw [if_neg g2, show ostep (gI M 386) = 0 from if_neg g2]
    exact (if_pos rfl).symm
/-- the phase of the last frame behind a FACT -/
def PhF (dp : Nat) (kd : Int32) (MY' : Mem) : Prop := gA MY' 22 (dp - 1) = 2 ∨ (gA MY' 22 (dp - 1) = 1 ∧ ¬ ari kd)
theorem PhF.ne {dp : Nat} {kd : Int32} {M : Mem} (h : PhF dp kd M) : ¬ gA M 22 (dp - 1) = 0 := by
  rcases h with z | z
  · rw [z]; decide
  · rw [z.1]; decide
theorem bothP {n0 L b c0 op : Nat} {rec : Nat → Int32 → Int32 → Mem → Option (Int32 × Mem)} (hn : 1601 ≤ n0) (hF : SFact n0 L b c0 op (fun M => rec 7 (nI op) 0 M)) : SBoth n0 L b c0 op (fun M => fX3_readBoth n0 rec (nI op) M) := by
  intro s qf dp m bs pw lx ly MX MY h hTP hoc hm
  have hbs := h.2.2.2.2.1.2.2.2.2.2.1
  have hop7 : op ≤ 7 := h.2.2.2.2.1.2.2.2.2.2.2.2.2.2.2.2.2
  have hdp := h.2.2.2.2.1.2.2.2.1
  show Ok n0 L s qf b c0 dp m bs op pw lx ly MX MY (4 + (7 - op)) 2 (DP op + 4) true (fun MX' MY' => QFact dp MX' MY' ∧ ¬ gI MX' 386 = 280) (fX3_readBoth n0 rec (nI op) MX) ∨ Bad n0 s qf b c0 dp m ly MX MY (fX3_readBoth n0 rec (nI op) MX)
  unfold fX3_readBoth fX3_readBoth_12
  rcases hF s qf dp m bs pw lx ly MX MY h hTP (by rcases hoc with q | q; exact Or.inl q; exact Or.inr (by omega)) (by omega) with ⟨MX1, MY1, s1, k1, δ, R, ly1, er, hS, hq⟩ | ⟨MXf, MYf, kk, er, hB⟩
  rotate_left
  · exact Or.inr ⟨MXf, MYf, kk, eq_b er (eq_t rfl rfl), hB⟩
  have key := binL (x1 := nI op) (rl := 4 + (7 - op)) (r := 2) (D := DP op + 4) (rl2 := 3 + (7 - op)) (r2 := 3) (D2 := DP op + 3) (ta := true) (tb := true) astep (fun _ => 41) (fun M => rec 7 (nI op) 0 M) (fun kd MYc => PhF dp kd MYc) (fun _ MY1 => TPre dp MY1 ∧ gA MY1 26 m = 41) (fun _ MX2 MY2 => QFact dp MX2 MY2) hn h
    (fun MXc MYc sc k δ R lyc hS hqc hst => by
      have hk := astep_k hst
      have hT1 : isT (gA MYc 21 (dp - 1)) := by
        rw [hS.2.2.2.2.2.2.2.2.2.2.2.2.2.2.1.2.1 21 (dp - 1) (by unfold pReg; omega)]
        exact hTP.1
      obtain ⟨MX1, MY1, s1, hN', e1, e2⟩ := nxL (least := 2) hn h hS (Or.inl hk) (by rw [if_pos hk]) (Nat.le_refl _) hT1 hqc.ne (by omega) hoc
      rw [if_pos hk] at hN'
      refine ⟨MX1, MY1, s1, hN', ⟨?_, e1, e2⟩, hN'.2.2.2.2.1⟩
      rw [hN'.2.2.2.2.2.1.2.1 21 (dp - 1) (by unfold pReg; omega)]
      exact hT1)
    (fun s1 lx1 ly1 MX1 MY1 hE _ hE2 => hF s1 qf dp (m + 1) bs (pw + 1) lx1 ly1 MX1 MY1 hE hE2.1 (Or.inr (by rw [Nat.add_sub_cancel, hE2.2]; decide)) (by omega))
    (fun MX1 MY1 MX2 MY2 hE2 _ hq2 => hq2)
    (fun k hk => ⟨by decide, by rw [astep_k hk]; decide, by decide, fun st => rfl⟩) (by decide) (by decide) (by omega) (Nat.le_refl _) n0 0 MX1 MY1 s1 k1 δ R ly1 (hS.wk (by omega) (by decide) (by omega)) hq (Nat.zero_le _) (by omega)
  have key2 : Ok n0 L s qf b c0 dp m bs op pw lx ly MX MY (4 + (7 - op)) 2 (DP op + 4) true (fun MX' MY' => QFact dp MX' MY' ∧ ¬ gI MX' 386 = 280) (loopN (gBody n0 astep (fun M => rec 7 (nI op) 0 M)) (fun _ _ _ => none) n0 (nI op) (nI 0) MX1) ∨ Bad n0 s qf b c0 dp m ly MX MY (loopN (gBody n0 astep (fun M => rec 7 (nI op) 0 M)) (fun _ _ _ => none) n0 (nI op) (nI 0) MX1) := by
    rcases key with ⟨A, B, C, D', E', F', G', q1, q2, q3, q4⟩ | q
    · refine Or.inl ⟨A, B, C, D', E', F', G', q1, q2, q3, fun g => ?_⟩
      rw [g] at q4
      exact absurd q4 (by decide)
    · exact Or.inr q
  refine Ok.nrm key2 (fun v M _ e => eq_b er (eq_f i10 ?_))
  rw [show (0 : Int32) = nI 0 from rfl, loop_ext1 (G := gBody n0 astep (fun M => rec 7 (nI op) 0 M)) (fun k x2 M => gb_both k x2 M) (fun k k' x2 M hk => gBody_k k k' x2 M hk)]
  exact e
theorem testP {n0 L b c0 op : Nat} {rec : Nat → Int32 → Int32 → Mem → Option (Int32 × Mem)} (hn : 1601 ≤ n0) (hF : SBoth n0 L b c0 op (fun M => rec 6 (nI op) 0 M)) : STest n0 L b c0 op (fun M => fX3_readTest n0 rec (nI op) M) := by
  intro s qf dp m bs pw lx ly MX MY h hTP hoc hm
  have hbs := h.2.2.2.2.1.2.2.2.2.2.1
  have hop7 : op ≤ 7 := h.2.2.2.2.1.2.2.2.2.2.2.2.2.2.2.2.2
  have hdp := h.2.2.2.2.1.2.2.2.1
  show Ok n0 L s qf b c0 dp m bs op pw lx ly MX MY (5 + (7 - op)) 1 (DP op + 5) true (QTest dp) (fX3_readTest n0 rec (nI op) MX) ∨ Bad n0 s qf b c0 dp m ly MX MY (fX3_readTest n0 rec (nI op) MX)
  unfold fX3_readTest fX3_readTest_12
  rcases hF s qf dp m bs pw lx ly MX MY h hTP (Or.inl hoc) (by omega) with ⟨MX1, MY1, s1, k1, δ, R, ly1, er, hS, hq⟩ | ⟨MXf, MYf, kk, er, hB⟩
  rotate_left
  · exact Or.inr ⟨MXf, MYf, kk, eq_b er (eq_t rfl rfl), hB⟩
  have key := binL (x1 := nI op) (rl := 5 + (7 - op)) (r := 1) (D := DP op + 5) (rl2 := 4 + (7 - op)) (r2 := 2) (D2 := DP op + 4) (ta := true) (tb := true) ostep (fun _ => 42) (fun M => rec 6 (nI op) 0 M) (fun kd MYc => PhF dp kd MYc ∧ ¬ kd = 280) (fun _ MY1 => TPre dp MY1 ∧ gA MY1 26 m = 42) (fun _ MX2 MY2 => QFact dp MX2 MY2 ∧ ¬ gI MX2 386 = 280) hn h
    (fun MXc MYc sc k δ R lyc hS hqc hst => by
      have hk := ostep_k hst
      have hT1 : isT (gA MYc 21 (dp - 1)) := by
        rw [hS.2.2.2.2.2.2.2.2.2.2.2.2.2.2.1.2.1 21 (dp - 1) (by unfold pReg; omega)]
        exact hTP.1
      have hne : ¬ gI MXc 386 = 280 := hqc.2
      obtain ⟨MX1, MY1, s1, hN', e1, e2⟩ := nxL (least := 1) hn h hS (Or.inr hk) (by rw [if_neg hne]) (Nat.le_refl _) hT1 hqc.1.ne (by omega) (Or.inl hoc)
      rw [if_neg hne] at hN'
      refine ⟨MX1, MY1, s1, hN', ⟨?_, e1, e2⟩, hN'.2.2.2.2.1⟩
      rw [hN'.2.2.2.2.2.1.2.1 21 (dp - 1) (by unfold pReg; omega)]
      exact hT1)
    (fun s1 lx1 ly1 MX1 MY1 hE _ hE2 => hF s1 qf dp (m + 1) bs (pw + 1) lx1 ly1 MX1 MY1 hE hE2.1 (Or.inr (by rw [Nat.add_sub_cancel, hE2.2]; decide)) (by omega))
    (fun MX1 MY1 MX2 MY2 hE2 _ hq2 => hq2)
    (fun k hk => ⟨by decide, by rw [ostep_k hk]; decide, by decide, fun st => rfl⟩) (by decide) (by decide) (by omega) (Nat.le_refl _) n0 0 MX1 MY1 s1 k1 δ R ly1 (hS.wk (by omega) (by decide) (by omega)) hq (Nat.zero_le _) (by omega)
  have key2 : Ok n0 L s qf b c0 dp m bs op pw lx ly MX MY (5 + (7 - op)) 1 (DP op + 5) true (QTest dp) (loopN (gBody n0 ostep (fun M => rec 6 (nI op) 0 M)) (fun _ _ _ => none) n0 (nI op) (nI 0) MX1) ∨ Bad n0 s qf b c0 dp m ly MX MY (loopN (gBody n0 ostep (fun M => rec 6 (nI op) 0 M)) (fun _ _ _ => none) n0 (nI op) (nI 0) MX1) := by
    rcases key with ⟨A, B, C, D', E', F', G', q1, q2, q3, q4⟩ | q
    · refine Or.inl ⟨A, B, C, D', E', F', G', q1, q2, q3.1, q3.2, fun g => ?_⟩
      rw [g] at q4
      exact absurd q4 (by decide)
    · exact Or.inr q
  refine Ok.nrm key2 (fun v M _ e => eq_b er (eq_f i10 ?_))
  rw [show (0 : Int32) = nI 0 from rfl, loop_ext1 (G := gBody n0 ostep (fun M => rec 6 (nI op) 0 M)) (fun k x2 M => gb_test k x2 M) (fun k k' x2 M hk => gBody_k k k' x2 M hk)]
  exact e
/-- everything that the depth d is enough for -/
def AllS (n0 L b c0 d : Nat) : Prop := ∀ op, op ≤ 7 →
  (9 * (8 - op) ≤ d → STest n0 L b c0 op (fun M => recX3 n0 d 5 (nI op) 0 M)) ∧
  (9 * (8 - op) ≤ d + 1 → SBoth n0 L b c0 op (fun M => recX3 n0 d 6 (nI op) 0 M)) ∧
  (9 * (8 - op) ≤ d + 2 → SFact n0 L b c0 op (fun M => recX3 n0 d 7 (nI op) 0 M)) ∧
  (9 * (8 - op) ≤ d + 3 → SCmp n0 L b c0 op (fun M => recX3 n0 d 8 (nI op) 0 M)) ∧
  (9 * (8 - op) ≤ d + 4 → SSum n0 L b c0 op (fun M => recX3 n0 d 0 (nI op) 0 M)) ∧
  (9 * (8 - op) ≤ d + 5 → SProd n0 L b c0 op (fun M => recX3 n0 d 1 (nI op) 0 M)) ∧
  (9 * (8 - op) ≤ d + 6 → SPart n0 L b c0 op (fun _ => True) (fun M => recX3 n0 d 2 (nI op) 0 M)) ∧
  (9 * (8 - op) ≤ d + 7 → ∀ x2, SPart n0 L b c0 op (fun M => (gI M 386 = 283 ∧ x2 = -12) ∨ (gI M 386 = 284 ∧ x2 = -13)) (fun M => recX3 n0 d 3 (nI op) x2 M)) ∧
  (9 * (8 - op) ≤ d + 7 → SPart n0 L b c0 op (fun M => gI M 386 = 278) (fun M => recX3 n0 d 4 (nI op) 0 M))
theorem allS {n0 L b c0 : Nat} (hn : 1601 ≤ n0) : ∀ d, AllS n0 L b c0 d
  | 0 => fun op ho => ⟨fun h => by omega, fun h => by omega, fun h => by omega, fun h => by omega, fun h => by omega, fun h => by omega, fun h => by omega, fun h => by omega, fun h => by omega⟩
  | d + 1 => by
    have ih := allS (n0 := n0) (L := L) (b := b) (c0 := c0) hn d
    intro op ho
    refine ⟨fun h => ?_, fun h => ?_, fun h => ?_, fun h => ?_, fun h => ?_, fun h => ?_, fun h => ?_, fun h x2 => ?_, fun h => ?_⟩
    · exact testP (rec := recX3 n0 d) hn ((ih op ho).2.1 (by omega))
    · exact bothP (rec := recX3 n0 d) hn ((ih op ho).2.2.1 (by omega))
    · exact factP (rec := recX3 n0 d) hn ((ih op ho).2.2.2.1 (by omega)) (fun h7 => (ih (op + 1) (by omega)).1 (by omega)) (fun h7 => (ih (op + 1) (by omega)).2.2.1 (by omega))
    · exact cmpP (rec := recX3 n0 d) hn ((ih op ho).2.2.2.2.1 (by omega))
    · exact sumP (rec := recX3 n0 d) hn ((ih op ho).2.2.2.2.2.1 (by omega))
    · exact prodP (rec := recX3 n0 d) hn ((ih op ho).2.2.2.2.2.2.1 (by omega))
    · exact partP (rec := recX3 n0 d) hn (fun h7 => (ih (op + 1) (by omega)).2.2.2.2.1 (by omega)) ((ih op ho).2.2.2.2.2.2.2.1 (by omega)) ((ih op ho).2.2.2.2.2.2.2.2 (by omega))
    · exact pairP (rec := recX3 n0 d) hn (fun h7 => (ih (op + 1) (by omega)).2.2.2.2.1 (by omega))
    · exact choiceP (rec := recX3 n0 d) hn (fun h7 => (ih (op + 1) (by omega)).2.2.2.2.1 (by omega)) (fun h7 => (ih (op + 1) (by omega)).1 (by omega))
end
section
/-! STATEMENTS: says, gone -/
theorem TownR.setF {q b nt nc nd nr C C' wh : Nat} {MX MY MX' MY' : Mem} (h : TownR q b nt nc nd nr C MX MY) (hwh : wh ≤ 1) (h1 : ∀ j, 128 * q ≤ j → j < 128 * q + 2048 → j ≠ 128 * (q + 12 + 2 * wh) + 1 → gI MX' j = gI MX j) (h2 : ∀ a, q ≤ a → a < q + 16 → a ≠ q + 13 + 2 * wh → gA MX' a = gA MX a) (h3 : ∀ a i, ¬ (21 ≤ a) → regA b a i → ¬ ((a = 14 ∨ a = 15) ∧ i = 2 * b + wh) → ¬ ((a = 16 ∨ a = 17) ∧ 1600 * b + C ≤ i) → gA MY' a i = gA MY a i) (h4 : ∀ a i, regB b a i → gB MY' a i = gB MY a i) (hF : FmR q b C' wh MX' MY') (hC : C ≤ C') (hC' : C' ≤ 1600) : TownR q b nt nc nd nr C' MX' MY' := by
  obtain ⟨⟨⟨a1, a2, a3⟩, ⟨a4, a5, a6⟩, ⟨a7, a8, a9⟩⟩, b1, b2, b3, ⟨c1, c2, c3⟩, ⟨p, p1, p2, p3⟩, d1, d2, d3⟩ := h
  have t6 := a3.1
  have c5 := a6.1
  have d6 := a9.1
  have oth : ∀ wo, wo ≤ 1 → wo ≠ wh → FmR q b C wo MX MY → FmR q b C' wo MX' MY' := by
    intro wo h0 hne hf
    unfold FmR xlist at hf ⊢
    rw [h1 _ (by omega) (by omega) (by omega), h2 (q + 12 + 2 * wo + 1) (by omega) (by omega) (by omega), h3 14 _ (by omega) (by unfold regA; omega) (by omega) (by omega), h3 15 _ (by omega) (by unfold regA; omega) (by omega) (by omega)]
    rcases hf with hf | ⟨c0, δ, e1, e2, e3, e4, e5, e6, e7, e8⟩
    · exact Or.inl hf
    · refine Or.inr ⟨c0, δ, e1, by omega, e3, e4, e5, fun i hi => ?_, e7, e8⟩
      rw [h3 16 _ (by omega) (by unfold regA; omega) (by omega) (by omega), h3 17 _ (by omega) (by unfold regA; omega) (by omega) (by omega)]
      exact e6 i hi
  refine ⟨⟨⟨?_, ?_, ?_⟩, ⟨?_, ?_, ?_⟩, ⟨?_, ?_, ?_⟩⟩, ?_, ?_, ?_, ⟨?_, ?_, ?_⟩, ⟨p, p1, ?_, ?_⟩, ?_, ?_, hC'⟩
  · rw [h1 _ (by omega) (by omega) (by omega)]; exact a1
  · rw [h3 _ _ (by omega) (by unfold regA; omega) (by omega) (by omega)]; exact a2
  · refine ⟨a3.1, fun i hi => ?_⟩
    dsimp only
    rw [h2 _ (by omega) (by omega) (by omega), h4 18 (6 * b + i) (by unfold regB; omega)]
    exact a3.2 i hi
  · rw [h1 _ (by omega) (by omega) (by omega)]; exact a4
  · rw [h3 _ _ (by omega) (by unfold regA; omega) (by omega) (by omega)]; exact a5
  · refine ⟨a6.1, fun i hi => ?_⟩
    dsimp only
    rw [h2 _ (by omega) (by omega) (by omega), h4 19 (5 * b + i) (by unfold regB; omega)]
    exact a6.2 i hi
  · rw [h1 _ (by omega) (by omega) (by omega)]; exact a7
  · rw [h3 _ _ (by omega) (by unfold regA; omega) (by omega) (by omega)]; exact a8
  · refine ⟨a9.1, fun i hi => ?_⟩
    dsimp only
    rw [h2 _ (by omega) (by omega) (by omega), h4 20 (6 * b + i) (by unfold regB; omega)]
    exact a9.2 i hi
  · intro i hi
    dsimp only
    rw [h2 (q + 2) (by omega) (by omega) (by omega), h2 (q + 3) (by omega) (by omega) (by omega), h3 3 (6 * b + i) (by omega) (by unfold regA; omega) (by omega) (by omega), h3 4 (6 * b + i) (by omega) (by unfold regA; omega) (by omega) (by omega)]
    exact b1 i hi
  · intro i hi
    dsimp only
    rw [h2 (q + 5) (by omega) (by omega) (by omega), h3 6 (5 * b + i) (by omega) (by unfold regA; omega) (by omega) (by omega)]
    exact b2 i hi
  · intro i hi
    dsimp only
    rw [h2 (q + 10) (by omega) (by omega) (by omega), h2 (q + 11) (by omega) (by omega) (by omega), h3 11 (6 * b + i) (by omega) (by unfold regA; omega) (by omega) (by omega), h3 12 (6 * b + i) (by omega) (by unfold regA; omega) (by omega) (by omega)]
    exact b3 i hi
  · rw [h1 _ (by omega) (by omega) (by omega)]; exact c1
  · rw [h3 _ _ (by omega) (by unfold regA; omega) (by omega) (by omega)]; exact c2
  · rw [h2 (q + 6) (by omega) (by omega) (by omega), h2 (q + 7) (by omega) (by omega) (by omega), h2 (q + 8) (by omega) (by omega) (by omega)]
    refine ⟨c3.1, c3.2.1, fun a c ha hc => ?_⟩
    dsimp only
    rw [h3 8 (25 * b + (5 * a + c)) (by omega) (by unfold regA; omega) (by omega) (by omega)]
    exact c3.2.2 a c ha hc
  · rw [h1 _ (by omega) (by omega) (by omega)]; exact p2
  · rw [h3 _ _ (by omega) (by unfold regA; omega) (by omega) (by omega)]; exact p3
  · by_cases e : wh = 0
    · subst e; exact hF
    · exact oth 0 (by decide) (by omega) d1
  · by_cases e : wh = 1
    · subst e; exact hF
    · exact oth 1 (by decide) (by omega) d2
/-- X read a phrase well, and what follows it is no token at all: the reference tells that at once, the class with the next sign -/
def Odd (q b : Nat) (MX MY : Mem) (rx : Option (Int32 × Mem)) (ry : Option Mem) : Prop := ∃ MX' MY', rx = some (1, MX') ∧ ry = some MY' ∧ gI MX' 386 = 258 ∧ gI MY' 8 = 1 ∧ gI MY' 9 = gI MX' 388 ∧ FX2 q MX MX' ∧ FY2 b MY MY'
/-- the reader's own start -/
def yStart (M : Mem) (k : Int32) : Mem := sI (sA (sA (sA (sA (sI (sI (sI (sI M 41 0) 42 0) 44 0) 45 0) 21 0 k) 22 0 0) 23 0 1) 25 0 0) 41 1
theorem ystart {n0 : Nat} {k : Int32} {M : Mem} (h8 : gI M 8 = 0) (hk : k = 0 ∨ k = 1) : fX12_reads n0 k M = YLp n0 n0 (yStart M k) := by
  have e8 : gI M 8 ≤ 0 := by rw [h8]; exact i00
  have ep : ∀ k' : Int32, fX12_reads_38 n0 k' (sI (sI (sI (sI M 41 0) 42 0) 44 0) 45 0) = YLp n0 n0 (yStart M k') := fun k' => by
    have e41 : gI (sI (sI (sI (sI M 41 0) 42 0) 44 0) 45 0) 41 = 0 := by simp [gI_sI]
    have e44 : gI (sI (sI (sI (sI M 41 0) 42 0) 44 0) 45 0) 44 = 0 := by simp [gI_sI]
    have o : ¬ oob (gI (sI (sI (sI (sI M 41 0) 42 0) 44 0) 45 0) 41) 20 := by rw [e41]; decide
    have c0 : (0 : Int32).toNatClampNeg = 0 := by decide
    have hp : fX12_pushes n0 k' (sI (sI (sI (sI M 41 0) 42 0) 44 0) 45 0) = some (yStart M k') := by
      unfold fX12_pushes yStart
      refine eq_f o (eq_n (eq_f o (eq_n (eq_f o (eq_n (eq_f o (eq_n ?_)))))))
      simp only [gI_sA, e41, e44, c0]
      rfl
    unfold fX12_reads_38 YLp
    exact eq_b hp rfl
  unfold fX12_reads
  rcases hk with q | q
  · subst q
    exact eq_t e8 (eq_n (eq_n (eq_n (eq_n (eq_t rfl (ep 0))))))
  · subst q
    exact eq_t e8 (eq_n (eq_n (eq_n (eq_n (eq_f i10 (ep 1))))))
section SAYS
variable {n0 L s q b nt nc nd nr C wh : Nat} {MX MY : Mem}
/-- both readers at the start of a phrase -/
theorem startEn {fl' : Int32} (hq : q = 31 ∨ q = 47) (hwh : wh ≤ 1) (hP : PR L s MX MY) (hb : gI MY 34 = nI b) (hb1 : b ≤ 1) (h33 : gI MY 33 = nI C) (hCs : C ≤ s) (hz : gI MX (128 * (q + 12 + 2 * wh) + 1) = 0) (hf : fl' = 0 ∨ fl' = 1) (i : Nat) : En L s (q + 12 + 2 * wh) b C 1 0 0 0 0 [] [] (sI (sR MX 257 (q + 12 + 2 * wh)) 258 fl') (yStart (sA (sI MY 35 fl') 14 i (nI C)) fl') := by
  refine ⟨?_, ?_, by omega, ⟨?_, fun i hi => by simp at hi⟩, ⟨?_, hb1, ?_, ⟨by decide, by decide⟩, ?_, Nat.le_refl _, ?_, trivial, by simp, ?_, fun i hi => by simp at hi, ?_, ?_⟩, ⟨?_, ?_⟩, by omega, Nat.le_refl _, by simp; omega, by simp, ?_⟩
  · refine hP.cong (fun j h1 h2 => ?_) ?_ rfl rfl (fun j hj => ?_) rfl ?_
    · rw [gI_ne (by omega)]; rfl
    · rw [gI_ne (by omega)]; rfl
    · unfold yStart
      rw [gI_ne (by omega)]
      show gI (sI (sI (sI (sI (sA (sI MY 35 fl') 14 i (nI C)) 41 0) 42 0) 44 0) 45 0) j = _
      rw [gI_ne (by omega), gI_ne (by omega), gI_ne (by omega), gI_ne (by omega)]
      show gI (sI MY 35 fl') j = _
      rw [gI_ne (by omega)]
    · unfold yStart
      show gA (sA (sA (sA (sA (sA (sI MY 35 fl') 14 i (nI C)) 21 0 fl') 22 0 0) 23 0 1) 25 0 0) 1 = _
      rw [gA_sA_ne (by decide), gA_sA_ne (by decide), gA_sA_ne (by decide), gA_sA_ne (by decide), gA_sA_ne (by decide)]
      rfl
  · show gR (sR MX 257 _) 257 = _
    rw [gR_sR, if_pos rfl]
  · rw [gI_ne (by omega)]
    exact hz
  · unfold yStart; simp [gI_sI, gI_sA, hb]
  · unfold yStart; rw [gI_at]; rfl
  · unfold yStart
    show gA (sA _ 25 0 0) 25 0 = _
    rw [gA_sA, if_pos rfl, if_pos rfl]
    rfl
  · unfold yStart; simp [gI_sI, gI_sA]; rfl
  · unfold yStart; simp [gI_sI, gI_sA, h33]
  · unfold yStart; simp [gI_sI, gI_sA]; rfl
  · decide
  · unfold yStart; simp [gI_sI, gI_sA]
  · rw [gI_at]; exact hf
  · unfold yStart; simp [gI_sI, gI_sA]
/-- the end of a phrase: what waits is joined; or the token behind it is none -/
theorem phrEnd {k : Nat} {t : Bool} {rl r D k' : Nat} {lyc δ : List (Int32 × Int32)} {R : List Int32} {MXi MYi MXc MYc : Mem} {qf sc : Nat} {kf : Int32} (hn : 1700 ≤ n0) (h : En L s qf b C 1 0 0 0 0 [] [] MXi MYi) (hS : St n0 L s qf b C 1 0 0 0 0 [] [] MXi MYi rl r D t MXc MYc sc k' δ R lyc) (hr : 1 ≤ r) (hkf : gA MYi 21 0 = kf) (hk01 : kf = 0 ∨ kf = 1) (hQ1 : ¬ ari (gI MXc 386) ∨ (2 : Int32) ≤ gA MYc 22 0) (hQ2 : ¬ isT kf ∨ (¬ gA MYc 22 0 = 0 ∧ ¬ gI MXc 386 = 280 ∧ ¬ gI MXc 386 = 279)) (hk : k = 0) :
    (gI MXc 386 = 258 ∧ YLp n0 n0 MYi = some (sI (sI MYc 8 1) 9 (gI MXc 388))) ∨ (∃ Mj, YLp n0 n0 MYi = some Mj ∧ PR L sc MXc Mj ∧ YP b C 1 0 0 0 [] δ Mj ∧ FP b C 1 0 MYi Mj) := by
  obtain ⟨hlen1, hlen2, hlen3, hlen4⟩ := hS.len h
  obtain ⟨a1, a2, a3, a4, a5, a6, a7, a8, a9, a10, a11, a12, a13, a14, a15, a16⟩ := hS
  have hfu : n0 = n0 - k' - 2 + 2 + k' := by omega
  have f21 : gA MYc 21 0 = kf := (a15.2.1 21 0 (by unfold pReg; omega)).trans hkf
  by_cases h8 : gI MXc 386 = 258
  · left
    refine ⟨h8, ?_⟩
    have : YLp n0 (n0 - k' - 2 + 2 + k') MYi = some (sI (sI MYc 8 1) 9 (gI MXc 388)) := by
      rw [a1]
      exact ylgo0 (by rw [a11]; decide) (ygoB a4 h8)
    rwa [← hfu] at this
  · right
    obtain ⟨Mj, ej, yj, fj⟩ := a6.join (n0 := n0) (least := 1) (by omega) (fun o ho => Nat.le_trans hr (a8 o ho)) (Or.inl rfl) (by omega) (by decide)
    have hgo : fX12_goesOn n0 MYc = some (0, Mj) := by
      rw [ygo422 (dp := 1) a4 h8 hQ1 (by rw [f21]; exact hQ2) a6.2.2.1 a6.2.2.2.1]
      unfold fX12_goesOn_422
      rw [f21]
      exact eq_f (by rcases hk01 with z | z <;> rw [z] <;> decide) (eq_t a4.f8 (eq_b ej rfl))
    have e : lyc ++ fl R = δ := by rw [a7]; rfl
    rw [e] at yj
    refine ⟨Mj, ?_, a4.jn fj, yj, a15.tr (fj.p.wk (by simp) (Nat.le_refl _) (Nat.le_refl _))⟩
    have : YLp n0 (n0 - k' - 2 + 2 + k') MYi = some Mj := by
      rw [a1]
      exact ylgo0 (by rw [a11]; decide) hgo
    rwa [← hfu] at this
end SAYS
end
section
/-! STATEMENTS: says, gone, put together -/
theorem FPx.q {q wh : Nat} {M M' : Mem} (hq : q = 31 ∨ q = 47) (hwh : wh ≤ 1) (h : FPx (q + 12 + 2 * wh) M M') : FX2 q M M' := ⟨fun k r => h.1 k (by unfold rgX at r; omega), fun a r => h.2.1 a (by omega), fun k _ => by rw [h.2.2]⟩
theorem yStart_FY {b : Nat} {k : Int32} {M : Mem} : FY2 b M (yStart M k) := by
  unfold yStart
  refine ((((((((FY2.r.i ?_).i ?_).i ?_).i ?_).a ?_).a ?_).a ?_).a ?_).i ?_ <;> first | (unfold regI; omega) | (unfold regA; omega)
theorem phrS {n0 L s q b nt nc nd nr C wh rl r D : Nat} {t : Bool} {MX MY : Mem} {fl' : Int32} {Q : Mem → Mem → Prop} {g : Mem → Option (Int32 × Mem)} (hn : 1700 ≤ n0) (hwh : wh ≤ 1) (h : Rd L s q b nt nc nd nr C MX MY) (hz : gI MX (128 * (q + 12 + 2 * wh) + 1) = 0) (hf : (fl' = 0 ∧ t = decide (wh = 1) ∧ wh = 0) ∨ (fl' = 1 ∧ t = decide (wh = 1) ∧ wh = 1)) (hr : 1 ≤ r) (hD : D ≤ 60)
    (hR : ∀ MYb, MYb = yStart (sA (sI MY 35 fl') 14 (2 * b + wh) (nI C)) fl' → En L s (q + 12 + 2 * wh) b C 1 0 0 0 0 [] [] (sI (sR MX 257 (q + 12 + 2 * wh)) 258 fl') MYb → Ok n0 L s (q + 12 + 2 * wh) b C 1 0 0 0 0 [] [] (sI (sR MX 257 (q + 12 + 2 * wh)) 258 fl') MYb rl r D t Q (g (sI (sR MX 257 (q + 12 + 2 * wh)) 258 fl')) ∨ Bad n0 s (q + 12 + 2 * wh) b C 1 0 [] (sI (sR MX 257 (q + 12 + 2 * wh)) 258 fl') MYb (g (sI (sR MX 257 (q + 12 + 2 * wh)) 258 fl')))
    (hQ : ∀ MX' MY', Q MX' MY' → (¬ ari (gI MX' 386) ∨ (2 : Int32) ≤ gA MY' 22 0) ∧ (¬ isT fl' ∨ (¬ gA MY' 22 0 = 0 ∧ ¬ gI MX' 386 = 280 ∧ ¬ gI MX' 386 = 279))) :
    (∃ MX' MY' s' C', g (sI (sR MX 257 (q + 12 + 2 * wh)) 258 fl') = some (1, MX') ∧ fX12_reading_67 n0 (nI (2 * b + wh)) fl' (sA (sI MY 35 fl') 14 (2 * b + wh) (nI C)) = some MY' ∧ s < s' ∧ Rd L s' q b nt nc nd nr C' MX' MY' ∧ FX2 q MX MX' ∧ FY2 b MY MY') ∨
    (∃ MX' MY', g (sI (sR MX 257 (q + 12 + 2 * wh)) 258 fl') = some (0, MX') ∧ fX12_reading_67 n0 (nI (2 * b + wh)) fl' (sA (sI MY 35 fl') 14 (2 * b + wh) (nI C)) = some MY' ∧ Flt MX' MY' ∧ FX2 q MX MX' ∧ FY2 b MY MY') ∨
    (∃ MX' MY', g (sI (sR MX 257 (q + 12 + 2 * wh)) 258 fl') = some (1, MX') ∧ fX12_reading_67 n0 (nI (2 * b + wh)) fl' (sA (sI MY 35 fl') 14 (2 * b + wh) (nI C)) = some MY' ∧ gI MX' 386 = 258 ∧ gI MY' 8 = 1 ∧ gI MY' 9 = gI MX' 388 ∧ FX2 q MX MX' ∧ FY2 b MY MY') := by
  obtain ⟨hP, hA, hT, hC, hCs⟩ := h
  have hq := hA.2.1
  have hb1 := hA.2.2.2
  have hf01 : fl' = 0 ∨ fl' = 1 := by
    rcases hf with z | z
    · exact Or.inl z.1
    · exact Or.inr z.1
  have hE := startEn (fl' := fl') hq hwh hP hA.2.2.1 hb1 hC hCs hz hf01 (2 * b + wh)
  have fxa : FX2 q MX (sI (sR MX 257 (q + 12 + 2 * wh)) 258 fl') := ⟨fun k r => by rw [gI_ne (fun e => r (by unfold rgX; omega))]; rfl, fun a _ => rfl, fun k r => by show gR (sR MX 257 _) k = _; rw [gR_sR, if_neg r]⟩
  have fya : FY2 b MY (sA (sI MY 35 fl') 14 (2 * b + wh) (nI C)) := (FY2.r.i (by unfold regI; omega)).a (by unfold regA; omega)
  have fyb : FY2 b MY (yStart (sA (sI MY 35 fl') 14 (2 * b + wh) (nI C)) fl') := fya.tr yStart_FY
  have ha8 : gI (sA (sI MY 35 fl') 14 (2 * b + wh) (nI C)) 8 = 0 := hP.f8
  have o4 : ¬ oob (nI (2 * b + wh)) 4 := nI_in (by omega) (by decide)
  have c4 : (nI (2 * b + wh)).toNatClampNeg = 2 * b + wh := nI_clamp (by omega)
  have er67 : ∀ M', YLp n0 n0 (yStart (sA (sI MY 35 fl') 14 (2 * b + wh) (nI C)) fl') = some M' → fX12_reading_67 n0 (nI (2 * b + wh)) fl' (sA (sI MY 35 fl') 14 (2 * b + wh) (nI C)) = some (sA M' 15 (2 * b + wh) (gI M' 33)) := fun M' e => by
    unfold fX12_reading_67
    simp only [c4]
    exact eq_b ((ystart ha8 hf01).trans e) (eq_f o4 rfl)
  have y21 : gA (yStart (sA (sI MY 35 fl') 14 (2 * b + wh) (nI C)) fl') 21 0 = fl' := by
    unfold yStart
    show gA (sA (sA (sA (sA _ 21 0 fl') 22 0 0) 23 0 1) 25 0 0) 21 0 = _
    rw [gA_sA_ne (by decide), gA_sA_ne (by decide), gA_sA_ne (by decide), gA_sA, if_pos rfl, if_pos rfl]
  have yar : ∀ a i, ¬ 21 ≤ a → gA (yStart (sA (sI MY 35 fl') 14 (2 * b + wh) (nI C)) fl') a i = gA (sA (sI MY 35 fl') 14 (2 * b + wh) (nI C)) a i := fun a i ha => by
    unfold yStart
    show gA (sA (sA (sA (sA (sA (sI MY 35 fl') 14 (2 * b + wh) (nI C)) 21 0 fl') 22 0 0) 23 0 1) 25 0 0) a i = _
    rw [gA_sA_ne (by omega), gA_sA_ne (by omega), gA_sA_ne (by omega), gA_sA_ne (by omega)]
  rcases hR _ rfl hE with ⟨MX', MYc, s', k', δ, R, lyc, er, hS, hq'⟩ | ⟨MX', MY', kk, er, hw, hsk, hfl, gx, gy⟩
  rotate_left
  · right; left
    have hfu : n0 = n0 - kk + kk := by omega
    have e : YLp n0 n0 (yStart (sA (sI MY 35 fl') 14 (2 * b + wh) (nI C)) fl') = some MY' := by
      have := hw (n0 - kk)
      rwa [← hfu] at this
    exact ⟨MX', _, er, er67 MY' e, hfl.cong rfl rfl rfl rfl, fxa.tr (gx.q hq hwh), (fyb.tr gy.Y2).a (by unfold regA; omega)⟩
  obtain ⟨z1, z2⟩ := hQ MX' MYc hq'
  have hSS := hS
  have hlen := hS.len hE
  rcases phrEnd (n0 := n0) (k := 0) hn hE hS hr y21 hf01 z1 z2 rfl with ⟨h8, e⟩ | ⟨Mj, e, pj, yj, fj⟩
  · right; right
    refine ⟨MX', _, er, er67 _ e, h8, ?_, ?_, fxa.tr (hS.2.2.2.2.2.2.2.2.2.2.2.2.2.1.q hq hwh), ?_⟩
    · show gI (sI (sI MYc 8 1) 9 (gI MX' 388)) 8 = 1
      rw [g8f]
    · show gI (sI (sI MYc 8 1) 9 (gI MX' 388)) 9 = _
      rw [gI_at]
    · exact (((fyb.tr hS.2.2.2.2.2.2.2.2.2.2.2.2.2.2.1.Y2).i (by unfold regI; omega)).i (by unfold regI; omega)).a (by unfold regA; omega)
  left
  obtain ⟨a1, a2, a3, a4, a5, a6, a7, a8, a9, a10, a11, a12, a13, a14, a15, a16⟩ := hS
  have e33 : gI Mj 33 = nI (C + δ.length) := yj.2.2.2.2.2.2.2.2.2.1
  have hex := exL_len (δ := δ)
  have a10' : C + (exL δ).length ≤ s' := by simpa using a10
  have s16 := hlen.2.2.2
  have fxE : FX2 q MX MX' := fxa.tr (a14.q hq hwh)
  have fyE : FY2 b MY (sA Mj 15 (2 * b + wh) (gI Mj 33)) := (fyb.tr fj.Y2).a (by unfold regA; omega)
  refine ⟨MX', sA Mj 15 (2 * b + wh) (gI Mj 33), s', C + δ.length, er, er67 Mj e, a3, ⟨pj.ar (by decide), hA.fr fxE fyE, ?_, e33, by omega⟩, fxE, fyE⟩
  have arj : ∀ a i, ¬ 21 ≤ a → ¬ ((a = 16 ∨ a = 17) ∧ 1600 * b + C ≤ i) → gA Mj a i = gA (sA (sI MY 35 fl') 14 (2 * b + wh) (nI C)) a i := fun a i h1 h2 => by
    rw [fj.2.1 a i (by unfold pReg; omega)]
    exact yar a i h1
  refine hT.setF (C' := C + δ.length) (wh := wh) hwh (fun j h1 h2 h3 => ?_) (fun a h1 h2 h3 => ?_) (fun a i h1 h2 h3 h4 => ?_) (fun a i _ => ?_) (Or.inr ⟨C, δ, a13, Nat.le_refl _, by simpa using a5, ?_, ?_, ?_, ?_, by omega⟩) (by omega) (by omega)
  · rw [a14.1 j (by omega), gI_ne (by omega)]
    rfl
  · rw [a14.2.1 a (by omega)]
    rfl
  · rw [gA_sA]
    by_cases e15 : a = 15
    · rw [if_pos e15, if_neg (by omega), ← e15, arj a i h1 h4, gA_sA_ne (by omega)]
      rfl
    · rw [if_neg e15, arj a i h1 h4, gA_sA]
      by_cases e14 : a = 14
      · rw [if_pos e14, if_neg (by omega), e14]
        rfl
      · rw [if_neg e14]
        rfl
  · show gB Mj a i = _
    rw [fj.2.2.2 a i]
    rfl
  · rw [gA_sA_ne (by decide), arj 14 _ (by decide) (by omega), gA_sA, if_pos rfl, if_pos rfl]
  · rw [gA_sA, if_pos rfl, if_pos rfl]
    exact e33
  · have hy := yj.2.2.2.2.2.2.2.2.2.2.1
    exact hy.cong (fun i _ => ⟨by rw [gA_sA_ne (by decide)], by rw [gA_sA_ne (by decide)]⟩)
  · have ht : t = decide (wh = 1) := by
      rcases hf with z | z
      · exact z.2.1
      · exact z.2.1
    rw [← ht]
    exact a12 [] (by simpa using hD)
theorem isTold {n0 q b C wh : Nat} {MX MY : Mem} (h : FmR q b C wh MX MY) (hC : C ≤ 1600) (hb : b ≤ 1) (hwh : wh ≤ 1) : (gA MY 14 (2 * b + wh) = -1 ∧ gI MX (128 * (q + 12 + 2 * wh) + 1) = 0 ∧ fX0_isTold n0 (q + 12 + 2 * wh) MX = some (0, MX)) ∨ (¬ gA MY 14 (2 * b + wh) = -1 ∧ fX0_isTold n0 (q + 12 + 2 * wh) MX = some (1, MX)) := by
  rcases h with h | ⟨c0, δ, e1, e2, e3, e4, e5, e6, e7, e8⟩
  · left
    refine ⟨h.2, h.1, ?_⟩
    unfold fX0_isTold
    exact eq_t (by rw [h.1]; exact i00) rfl
  · right
    refine ⟨by rw [e4]; exact nI_m1 (by omega), ?_⟩
    have := exL_len (δ := δ)
    unfold fX0_isTold
    exact eq_f (by rw [e3.1]; exact nI_nle (by omega) (by omega)) rfl
theorem saysS {n0 L s q b nt nc nd nr C : Nat} {MX MY : Mem} (hn : 1700 ≤ n0) (h : Rd L s q b nt nc nd nr C MX MY) (hk : gI MX 386 = 272) {rx : Option (Int32 × Mem)} (hrx : rx = (fX0_isTold n0 ((gR MX 130) + 12) MX).bind fun z256 => if z256.1 = 0 then fX4_readStatement_267 n0 (1 : Int32) z256.2 else fX4_readStatement_267 n0 (0 : Int32) z256.2) : StO L s q b MX MY rx (fX12_reading n0 0 MY) ∨ Odd q b MX MY rx (fX12_reading n0 0 MY) := by
  have hh := h
  obtain ⟨hP, hA, hT, hC, hCs⟩ := h
  have hb := hA.2.2.2
  have q7 := hA.2.1
  have o4 : ¬ oob (nI (2 * b + 0)) 4 := nI_in (by omega) (by decide)
  have e2 : (2 : Int32) * gI MY 34 + 0 = nI (2 * b + 0) := by
    rw [hA.2.2.1, show (0 : Int32) = nI 0 from rfl, ← nI_add, ← nI_mul]
    rfl
  have c4 : (nI (2 * b + 0)).toNatClampNeg = 2 * b + 0 := nI_clamp (by omega)
  have hrd : ∀ (u : Int32) r, (gA MY 14 (2 * b + 0) = -1 → u = 0) → (¬ gA MY 14 (2 * b + 0) = -1 → u = 1) → fX12_reading_25 n0 0 (nI (2 * b + 0)) u MY = r → fX12_reading n0 0 MY = r := fun u r h0 h1 hr => by
    unfold fX12_reading
    refine eq_n ?_
    rw [e2]
    simp only [c4]
    refine eq_f o4 ?_
    by_cases g : gA MY 14 (2 * b + 0) = -1
    · rw [h0 g] at hr
      exact eq_t g hr
    · rw [h1 g] at hr
      exact eq_f g hr
  rcases isTold (n0 := n0) (q := q) (wh := 0) hT.2.2.2.2.2.2.1 hT.2.2.2.2.2.2.2.2 hb (by decide) with ⟨t1, t2, t3⟩ | ⟨t1, t3⟩
  · obtain ⟨-, f2⟩ := fstP (n0 := n0) (full := False) (by omega) hP (by rw [hk]; decide) (by rw [hk]; decide)
    obtain ⟨MX1, MY1, s1, ex1, ey1, hs1, hP1, fx1, fy1⟩ := f2 id
    rw [bI_t (show ¬ False from id)] at ex1
    rw [bI_f (show ¬ False from id)] at ey1
    have hR1 : Rd L s1 q b nt nc nd nr C MX1 MY1 := ⟨hP1, hA.fr fx1.q fy1.b, hT.tok q7 fx1 fy1, (fy1.1 33 (by omega)).trans hC, by omega⟩
    have x130 : gR MX1 130 = q := hR1.2.1.1
    have key := phrS (n0 := n0) (wh := 0) (fl' := 0) (t := false) (g := fun M => recX3 n0 100 0 0 0 M) (rl := 2) (r := 5) (D := DP 0 + 2) hn (by decide) hR1 (by rw [fx1.2 _ (by omega)]; exact t2) (Or.inl ⟨rfl, rfl, rfl⟩) (by decide) (by decide) (Q := fun MX' MY' => ¬ ari (gI MX' 386)) (fun MYb eb hE => by
      have y21 : gA MYb 21 0 = 0 := by
        rw [eb]
        unfold yStart
        show gA (sA (sA (sA (sA _ 21 0 0) 22 0 0) 23 0 1) 25 0 0) 21 0 = _
        rw [gA_sA_ne (by decide), gA_sA_ne (by decide), gA_sA_ne (by decide), gA_sA, if_pos rfl, if_pos rfl]
      have y22 : gA MYb 22 0 = 0 := by
        rw [eb]
        unfold yStart
        show gA (sA (sA (sA _ 22 0 0) 23 0 1) 25 0 0) 22 0 = _
        rw [gA_sA_ne (by decide), gA_sA_ne (by decide), gA_sA, if_pos rfl, if_pos rfl]
      rcases ((allS (n0 := n0) (L := L) (b := b) (c0 := C) (by omega) 100) 0 (by decide)).2.2.2.2.1 (by decide) s1 _ 1 0 0 0 [] [] _ MYb hE ⟨Or.inl (by show ¬ isT (gA MYb 21 0); rw [y21]; decide), by show ¬ (2 : Int32) ≤ gA MYb 22 0; rw [y22]; decide⟩ (Or.inl rfl) (by decide) with ⟨A, B, C', D', E', F', G', q1, q2, q3⟩ | z
      · exact Or.inl ⟨A, B, C', D', E', F', G', q1, q2, q3.2⟩
      · exact Or.inr z) (fun MX' MY' z => ⟨Or.inl z, Or.inl (by decide)⟩)
    have yrd : ∀ r, fX12_reading_67 n0 (nI (2 * b + 0)) 0 (sA (sI MY1 35 0) 14 (2 * b + 0) (nI C)) = r → fX12_reading n0 0 MY = r := fun r hr => by
      refine hrd 0 r (fun _ => rfl) (fun g => absurd t1 g) ?_
      unfold fX12_reading_25 fX12_reading_43
      simp only [c4]
      refine eq_b ey1 (eq_f i10 (eq_f (by decide) (eq_t (by simp) (eq_n (eq_f o4 (eq_n (eq_f (by decide) ?_)))))))
      have e33 : gI (sI MY1 35 0) 33 = nI C := by rw [gI_ne (by decide)]; exact hR1.2.2.2.1
      show fX12_reading_67 n0 (nI (2 * b + 0)) 0 (sA (sI MY1 35 0) 14 (2 * b + 0) (gI (sI MY1 35 0) 33)) = r
      rw [e33]
      exact hr
    have xrd : ∀ v M, (v = 0 ∨ v = 1) → recX3 n0 100 0 0 0 (sI (sR MX1 257 (q + 12 + 2 * 0)) 258 0) = some (v, M) → rx = some (v, M) := fun v M hv e => by
      rw [hrx]
      have t3' : fX0_isTold n0 (gR MX 130 + 12) MX = some (0, MX) := by rw [hA.1]; exact t3
      refine eq_b t3' (eq_t rfl ?_)
      unfold fX4_readStatement_267 fX3_readSays
      rw [← x130] at e
      rcases hv with z | z
      · subst z
        exact eq_b ex1 (eq_f i10 (eq_b (eq_n (eq_n (eq_b e (eq_t (Or.inl rfl) rfl)))) (eq_t rfl rfl)))
      · subst z
        exact eq_b ex1 (eq_f i10 (eq_b (eq_n (eq_n (eq_b e (eq_t (Or.inr rfl) rfl)))) (eq_f i10 rfl)))
    rcases key with ⟨MX', MY', s', C', k1, k2, k3, k4, k5, k6⟩ | ⟨MX', MY', k1, k2, k3, k4, k5⟩ | ⟨MX', MY', k1, k2, k3, k4, k5, k6, k7⟩
    · exact Or.inl (Or.inl ⟨MX', MY', s', nt, nc, nd, nr, C', xrd 1 MX' (Or.inr rfl) k1, yrd _ k2, by omega, k4, fx1.q.tr k5, fy1.b.tr k6⟩)
    · exact Or.inl (Or.inr ⟨MX', MY', xrd 0 MX' (Or.inl rfl) k1, yrd _ k2, k3, fx1.q.tr k4, fy1.b.tr k5⟩)
    · exact Or.inr ⟨MX', MY', xrd 1 MX' (Or.inr rfl) k1, yrd _ k2, k3, k4, k5, fx1.q.tr k6, fy1.b.tr k7⟩
  · obtain ⟨f1, -⟩ := fstP (n0 := n0) (full := True) (by omega) hP (by rw [hk]; decide) (by rw [hk]; decide)
    obtain ⟨g1, g2⟩ := f1 trivial
    rw [bI_f (show ¬ ¬ True from fun g => g trivial)] at g1
    rw [bI_t (show True from trivial)] at g2
    left; right
    refine ⟨sI (sI MX 391 6) 392 (nI s), sI (sI MY 8 6) 9 (nI s), ?_, hrd 1 _ (fun g => absurd g t1) (fun _ => rfl) ?_, Flt.mk (k := 6) (by decide) (by decide), FIf.q, FYf.b⟩
    · rw [hrx]
      have t3' : fX0_isTold n0 (gR MX 130 + 12) MX = some (1, MX) := by rw [hA.1]; exact t3
      refine eq_b t3' (eq_f i10 ?_)
      unfold fX4_readStatement_267
      exact eq_b g1 (eq_t rfl rfl)
    · unfold fX12_reading_25
      exact eq_b g2 (eq_t rfl rfl)
theorem goneS {n0 L s q b nt nc nd nr C : Nat} {MX MY : Mem} (hn : 1700 ≤ n0) (h : Rd L s q b nt nc nd nr C MX MY) (hk : gI MX 386 = 273) {rx : Option (Int32 × Mem)} (hrx : rx = (fX0_isTold n0 ((gR MX 130) + 14) MX).bind fun z304 => if z304.1 = 0 then fX4_readStatement_315 n0 (1 : Int32) z304.2 else fX4_readStatement_315 n0 (0 : Int32) z304.2) : StO L s q b MX MY rx (fX12_reading n0 1 MY) ∨ Odd q b MX MY rx (fX12_reading n0 1 MY) := by
  have hh := h
  obtain ⟨hP, hA, hT, hC, hCs⟩ := h
  have hb := hA.2.2.2
  have q7 := hA.2.1
  have o4 : ¬ oob (nI (2 * b + 1)) 4 := nI_in (by omega) (by decide)
  have e2 : (2 : Int32) * gI MY 34 + 1 = nI (2 * b + 1) := by
    rw [hA.2.2.1, show (1 : Int32) = nI 1 from rfl, ← nI_add, ← nI_mul]
    rfl
  have c4 : (nI (2 * b + 1)).toNatClampNeg = 2 * b + 1 := nI_clamp (by omega)
  have hrd : ∀ (u : Int32) r, (gA MY 14 (2 * b + 1) = -1 → u = 0) → (¬ gA MY 14 (2 * b + 1) = -1 → u = 1) → fX12_reading_25 n0 1 (nI (2 * b + 1)) u MY = r → fX12_reading n0 1 MY = r := fun u r h0 h1 hr => by
    unfold fX12_reading
    refine eq_n ?_
    rw [e2]
    simp only [c4]
    refine eq_f o4 ?_
    by_cases g : gA MY 14 (2 * b + 1) = -1
    · rw [h0 g] at hr
      exact eq_t g hr
    · rw [h1 g] at hr
      exact eq_f g hr
  rcases isTold (n0 := n0) (q := q) (wh := 1) hT.2.2.2.2.2.2.2.1 hT.2.2.2.2.2.2.2.2 hb (by decide) with ⟨t1, t2, t3⟩ | ⟨t1, t3⟩
  · obtain ⟨-, f2⟩ := fstP (n0 := n0) (full := False) (by omega) hP (by rw [hk]; decide) (by rw [hk]; decide)
    obtain ⟨MX1, MY1, s1, ex1, ey1, hs1, hP1, fx1, fy1⟩ := f2 id
    rw [bI_t (show ¬ False from id)] at ex1
    rw [bI_f (show ¬ False from id)] at ey1
    have hR1 : Rd L s1 q b nt nc nd nr C MX1 MY1 := ⟨hP1, hA.fr fx1.q fy1.b, hT.tok q7 fx1 fy1, (fy1.1 33 (by omega)).trans hC, by omega⟩
    have x130 : gR MX1 130 = q := hR1.2.1.1
    have key := phrS (n0 := n0) (wh := 1) (fl' := 1) (t := true) (g := fun M => recX3 n0 100 5 0 0 M) (rl := 5 + (7 - 0)) (r := 1) (D := DP 0 + 5) hn (by decide) hR1 (by rw [fx1.2 _ (by omega)]; exact t2) (Or.inr ⟨rfl, rfl, rfl⟩) (by decide) (by decide) (Q := fun MX' MY' => QTest 1 MX' MY') (fun MYb eb hE => by
      have y21 : gA MYb 21 0 = 1 := by
        rw [eb]
        unfold yStart
        show gA (sA (sA (sA (sA _ 21 0 1) 22 0 0) 23 0 1) 25 0 0) 21 0 = _
        rw [gA_sA_ne (by decide), gA_sA_ne (by decide), gA_sA_ne (by decide), gA_sA, if_pos rfl, if_pos rfl]
      have y22 : gA MYb 22 0 = 0 := by
        rw [eb]
        unfold yStart
        show gA (sA (sA (sA _ 22 0 0) 23 0 1) 25 0 0) 22 0 = _
        rw [gA_sA_ne (by decide), gA_sA_ne (by decide), gA_sA, if_pos rfl, if_pos rfl]
      have y23 : gA MYb 23 0 = 1 := by
        rw [eb]
        unfold yStart
        show gA (sA (sA _ 23 0 1) 25 0 0) 23 0 = _
        rw [gA_sA_ne (by decide), gA_sA, if_pos rfl, if_pos rfl]
      exact ((allS (n0 := n0) (L := L) (b := b) (c0 := C) (by omega) 100) 0 (by decide)).1 (by decide) s1 _ 1 0 0 0 [] [] _ MYb hE ⟨by show isT (gA MYb 21 0); rw [y21]; decide, y22, y23⟩ rfl (by decide)) (fun MX' MY' z => by
      have z1 : gA MY' 22 0 = 2 ∨ (gA MY' 22 0 = 1 ∧ ¬ ari (gI MX' 386)) := z.1
      refine ⟨?_, Or.inr ⟨?_, z.2.1, z.2.2⟩⟩
      · rcases z1 with w | w
        · exact Or.inr (by rw [w]; decide)
        · exact Or.inl w.2
      · rcases z1 with w | w
        · rw [w]; decide
        · rw [w.1]; decide)
    have yrd : ∀ r, fX12_reading_67 n0 (nI (2 * b + 1)) 1 (sA (sI MY1 35 1) 14 (2 * b + 1) (nI C)) = r → fX12_reading n0 1 MY = r := fun r hr => by
      refine hrd 0 r (fun _ => rfl) (fun g => absurd t1 g) ?_
      unfold fX12_reading_25 fX12_reading_43
      simp only [c4]
      refine eq_b ey1 (eq_f i10 (eq_t (by simp) (eq_t (by simp) (eq_n (eq_f o4 (eq_n (eq_t (by simp) ?_)))))))
      have e33 : gI (sI MY1 35 1) 33 = nI C := by rw [gI_ne (by decide)]; exact hR1.2.2.2.1
      show fX12_reading_67 n0 (nI (2 * b + 1)) 1 (sA (sI MY1 35 1) 14 (2 * b + 1) (gI (sI MY1 35 1) 33)) = r
      rw [e33]
      exact hr
    have xrd : ∀ v M, (v = 0 ∨ v = 1) → recX3 n0 100 5 0 0 (sI (sR MX1 257 (q + 12 + 2 * 1)) 258 1) = some (v, M) → rx = some (v, M) := fun v M hv e => by
      rw [hrx]
      have t3' : fX0_isTold n0 (gR MX 130 + 14) MX = some (0, MX) := by rw [hA.1]; exact t3
      refine eq_b t3' (eq_t rfl ?_)
      unfold fX4_readStatement_315 fX3_readGone
      rw [← x130] at e
      rcases hv with z | z
      · subst z
        exact eq_b ex1 (eq_f i10 (eq_b (eq_n (eq_n (eq_b e (eq_t (Or.inl rfl) rfl)))) (eq_t rfl rfl)))
      · subst z
        exact eq_b ex1 (eq_f i10 (eq_b (eq_n (eq_n (eq_b e (eq_t (Or.inr rfl) rfl)))) (eq_f i10 rfl)))
    rcases key with ⟨MX', MY', s', C', k1, k2, k3, k4, k5, k6⟩ | ⟨MX', MY', k1, k2, k3, k4, k5⟩ | ⟨MX', MY', k1, k2, k3, k4, k5, k6, k7⟩
    · exact Or.inl (Or.inl ⟨MX', MY', s', nt, nc, nd, nr, C', xrd 1 MX' (Or.inr rfl) k1, yrd _ k2, by omega, k4, fx1.q.tr k5, fy1.b.tr k6⟩)
    · exact Or.inl (Or.inr ⟨MX', MY', xrd 0 MX' (Or.inl rfl) k1, yrd _ k2, k3, fx1.q.tr k4, fy1.b.tr k5⟩)
    · exact Or.inr ⟨MX', MY', xrd 1 MX' (Or.inr rfl) k1, yrd _ k2, k3, k4, k5, fx1.q.tr k6, fy1.b.tr k7⟩
  · obtain ⟨f1, -⟩ := fstP (n0 := n0) (full := True) (by omega) hP (by rw [hk]; decide) (by rw [hk]; decide)
    obtain ⟨g1, g2⟩ := f1 trivial
    rw [bI_f (show ¬ ¬ True from fun g => g trivial)] at g1
    rw [bI_t (show True from trivial)] at g2
    left; right
    refine ⟨sI (sI MX 391 6) 392 (nI s), sI (sI MY 8 6) 9 (nI s), ?_, hrd 1 _ (fun g => absurd g t1) (fun _ => rfl) ?_, Flt.mk (k := 6) (by decide) (by decide), FIf.q, FYf.b⟩
    · rw [hrx]
      have t3' : fX0_isTold n0 (gR MX 130 + 14) MX = some (1, MX) := by rw [hA.1]; exact t3
      refine eq_b t3' (eq_f i10 ?_)
      unfold fX4_readStatement_315
      exact eq_b g1 (eq_t rfl rfl)
    · unfold fX12_reading_25
      exact eq_b g2 (eq_t rfl rfl)
end
section
/-! A STATEMENT -/
theorem eq_i {ρ : Type} {c : Prop} [Decidable c] {a b r : ρ} (h : c → a = r) (h1 : ¬ c → b = r) : (if c then a else b) = r := by
  by_cases g : c
  · rw [if_pos g]; exact h g
  · rw [if_neg g]; exact h1 g
theorem bind_id {α : Type} {o : Option α} : (o.bind fun z => some z) = o := by cases o <;> rfl
theorem StO.eq {L s q b : Nat} {MX MY : Mem} {rx rx' : Option (Int32 × Mem)} {ry ry' : Option Mem} (h : StO L s q b MX MY rx ry) (ex : rx' = rx) (ey : ry' = ry) : StO L s q b MX MY rx' ry' := by rw [ex, ey]; exact h
theorem full_nI {n m : Nat} (hn : n ≤ m) (hm : m < 2 ^ 31) {α : Type} {f : Int32 → α} : (if nI m ≤ nI n then f 0 else f 1) = f (bI (¬ n = m)) := by
  by_cases g : n = m
  · rw [if_pos (nI_le (by omega) (by omega)), bI_f (fun q => q g)]
  · rw [if_neg (nI_ge (by omega) hm), bI_t g]
theorem full_y {n m : Nat} (hn : n < 2 ^ 31) (hm : m < 2 ^ 31) {α : Type} {f : Int32 → α} : (if nI n = nI m then f 1 else f 0) = f (bI (n = m)) := by
  by_cases g : n = m
  · rw [if_pos (by rw [g]), bI_t g]
  · rw [if_neg (fun q => g ((nI_eq hn hm).mp q)), bI_f g]

theorem stmtP {n0 L s q b nt nc nd nr C : Nat} {MX MY : Mem} (hn : 1700 ≤ n0) (h : Rd L s q b nt nc nd nr C MX MY) (h9 : ¬ gI MX 386 = 259) : StO L s q b MX MY (fX4_readStatement n0 MX) (fX12_statement n0 MY) ∨ Odd q b MX MY (fX4_readStatement n0 MX) (fX12_statement n0 MY) := by
  have hA := h.2.1
  have hT := h.2.2.1
  have hb := hA.2.2.2
  have t6 := hT.1.1.2.2.1
  have c5 := hT.1.2.1.2.2.1
  have d6 := hT.1.2.2.2.2.1
  have r10 := hT.2.2.2.2.1.2.2.1
  have e8 : gI MY 8 ≤ 0 := by rw [h.1.f8]; exact i00
  have o2 : ¬ oob (gI MY 34) 2 := by rw [hA.2.2.1]; exact nI_in (by omega) (by decide)
  have c34 : (gI MY 34).toNatClampNeg = b := by rw [hA.2.2.1, nI_clamp (by omega)]
  by_cases h8 : gI MX 386 = 258
  · left; right
    refine ⟨sI (sI MX 391 1) 392 (gI MX 388), sI (sI MY 8 1) 9 (gI MX 388), ?_, ?_, Flt.mk (k := 1) (by decide) (by decide), FIf.q, FYf.b⟩
    · unfold fX4_readStatement fX4_readStatement_365
      exact eq_f (by rw [h8]; decide) (eq_f (by rw [h8]; decide) (eq_f (by rw [h8]; decide) (eq_f (by rw [h8]; decide) (eq_f (by rw [h8]; decide) (eq_f (by rw [h8]; decide) (eq_f (by rw [h8]; decide) (eq_f (by rw [h8]; decide) (eq_f (by rw [h8]; decide) (eq_f (by rw [h8]; decide) (eq_f (by rw [h8]; decide) (eq_f (by rw [h8]; decide) (eq_f (by rw [h8]; decide) (eq_f (by rw [h8]; decide) (eq_f (by rw [h8]; decide) (eq_b xfailH (eq_t (Or.inl rfl) rfl))))))))))))))))
    · unfold fX12_statement
      exact eq_b (ylexB h.1 h8) (eq_f (n8f (k := 1) (by decide) (by decide)) rfl)
  have w260 : fX12_isWord n0 499967946343 MY = some (bI (gI MX 386 = 260), MY) := yWord (i := 0) (by decide) (by decide) (by decide) h.1 h8
  have w263 : fX12_isWord n0 109330312357234 MY = some (bI (gI MX 386 = 263), MY) := yWord (i := 3) (by decide) (by decide) (by decide) h.1 h8
  have w264 : fX12_isWord n0 1919902052 MY = some (bI (gI MX 386 = 264), MY) := yWord (i := 4) (by decide) (by decide) (by decide) h.1 h8
  have w267 : fX12_isWord n0 1885432941 MY = some (bI (gI MX 386 = 267), MY) := yWord (i := 7) (by decide) (by decide) (by decide) h.1 h8
  have w269 : fX12_isWord n0 431365910119 MY = some (bI (gI MX 386 = 269), MY) := yWord (i := 9) (by decide) (by decide) (by decide) h.1 h8
  have w272 : fX12_isWord n0 1935767923 MY = some (bI (gI MX 386 = 272), MY) := yWord (i := 12) (by decide) (by decide) (by decide) h.1 h8
  have w273 : fX12_isWord n0 1735356005 MY = some (bI (gI MX 386 = 273), MY) := yWord (i := 13) (by decide) (by decide) (by decide) h.1 h8
  have w274 : fX12_isWord n0 1885434739 MY = some (bI (gI MX 386 = 274), MY) := yWord (i := 14) (by decide) (by decide) (by decide) h.1 h8
  by_cases hk260 : gI MX 386 = 260
  · have hk := hk260
    left
    refine (thingS (n0 := n0) (by omega) h hk).eq ?_ ?_
    · unfold fX4_readStatement
      refine eq_t hk ?_
      rw [hA.1, hT.1.1.1]
      exact full_nI (m := 6) (f := fun u => fX4_readStatement_98 n0 u MX) (by omega) (by decide)
    · unfold fX12_statement
      refine eq_b (ylexG h.1 h8) (eq_t e8 (eq_b w260 (eq_f (bz hk) ?_)))
      rw [bind_id]
      unfold fX12_thinging
      refine eq_f o2 ?_
      rw [c34, hT.1.1.2.1]
      exact full_y (n := nt) (m := 6) (f := fun u => fX12_thinging_20 n0 u MY) (by omega) (by decide)
  by_cases hk263 : gI MX 386 = 263
  · have hk := hk263
    left
    refine (cornerS (n0 := n0) (by omega) h hk).eq ?_ ?_
    · unfold fX4_readStatement
      refine eq_f (by rw [hk]; decide) (eq_f (by rw [hk]; decide) (eq_f (by rw [hk]; decide) (eq_t hk ?_)))
      rw [hA.1, hT.1.2.1.1]
      exact full_nI (m := 5) (f := fun u => fX4_readStatement_134 n0 u MX) (by omega) (by decide)
    · unfold fX12_statement
      refine eq_b (ylexG h.1 h8) (eq_t e8 (eq_b w260 (eq_t (bI_f (by rw [hk]; decide)) (eq_b w263 (eq_f (bz hk) ?_)))))
      rw [bind_id]
      unfold fX12_cornering
      refine eq_f o2 ?_
      rw [c34, hT.1.2.1.2.1]
      exact full_y (n := nc) (m := 5) (f := fun u => fX12_cornering_19 n0 u MY) (by omega) (by decide)
  by_cases hk264 : gI MX 386 = 264
  · have hk := hk264
    left
    refine (roadS (n0 := n0) (by omega) h hk).eq ?_ ?_
    · unfold fX4_readStatement
      refine eq_f (by rw [hk]; decide) (eq_f (by rw [hk]; decide) (eq_f (by rw [hk]; decide) (eq_f (by rw [hk]; decide) (eq_t hk ?_))))
      rw [hA.1, hT.2.2.2.2.1.1]
      exact full_nI (m := 10) (f := fun u => fX4_readStatement_171 n0 u MX) (by omega) (by decide)
    · unfold fX12_statement
      refine eq_b (ylexG h.1 h8) (eq_t e8 (eq_b w260 (eq_t (bI_f (by rw [hk]; decide)) (eq_b w263 (eq_t (bI_f (by rw [hk]; decide)) (eq_b w264 (eq_f (bz hk) ?_)))))))
      rw [bind_id]
      unfold fX12_roading
      refine eq_f o2 ?_
      rw [c34, hT.2.2.2.2.1.2.1]
      exact full_y (n := nr) (m := 10) (f := fun u => fX12_roading_20 n0 u MY) (by omega) (by decide)
  by_cases hk267 : gI MX 386 = 267
  · have hk := hk267
    left
    refine (palmS (n0 := n0) (by omega) h hk).eq ?_ ?_
    · unfold fX4_readStatement xPalm
      exact eq_f (by rw [hk]; decide) (eq_f (by rw [hk]; decide) (eq_f (by rw [hk]; decide) (eq_f (by rw [hk]; decide) (eq_f (by rw [hk]; decide) (eq_f (by rw [hk]; decide) (eq_f (by rw [hk]; decide) (eq_t hk rfl)))))))
    · unfold fX12_statement
      refine eq_b (ylexG h.1 h8) (eq_t e8 (eq_b w260 (eq_t (bI_f (by rw [hk]; decide)) (eq_b w263 (eq_t (bI_f (by rw [hk]; decide)) (eq_b w264 (eq_t (bI_f (by rw [hk]; decide)) (eq_b w267 (eq_f (bz hk) ?_)))))))))
      exact bind_id
  by_cases hk269 : gI MX 386 = 269
  · have hk := hk269
    left
    refine (doingS (n0 := n0) (by omega) h hk).eq ?_ ?_
    · unfold fX4_readStatement
      refine eq_f (by rw [hk]; decide) (eq_f (by rw [hk]; decide) (eq_f (by rw [hk]; decide) (eq_f (by rw [hk]; decide) (eq_f (by rw [hk]; decide) (eq_f (by rw [hk]; decide) (eq_f (by rw [hk]; decide) (eq_f (by rw [hk]; decide) (eq_f (by rw [hk]; decide) (eq_t hk ?_)))))))))
      rw [hA.1, hT.1.2.2.1]
      exact full_nI (m := 6) (f := fun u => fX4_readStatement_229 n0 u MX) (by omega) (by decide)
    · unfold fX12_statement
      refine eq_b (ylexG h.1 h8) (eq_t e8 (eq_b w260 (eq_t (bI_f (by rw [hk]; decide)) (eq_b w263 (eq_t (bI_f (by rw [hk]; decide)) (eq_b w264 (eq_t (bI_f (by rw [hk]; decide)) (eq_b w267 (eq_t (bI_f (by rw [hk]; decide)) (eq_b w269 (eq_f (bz hk) ?_)))))))))))
      rw [bind_id]
      unfold fX12_doings
      refine eq_f o2 ?_
      rw [c34, hT.1.2.2.2.1]
      exact full_y (n := nd) (m := 6) (f := fun u => fX12_doings_20 n0 u MY) (by omega) (by decide)
  by_cases hk272 : gI MX 386 = 272
  · have hk := hk272
    have ey : fX12_statement n0 MY = fX12_reading n0 0 MY := by
      unfold fX12_statement
      refine eq_b (ylexG h.1 h8) (eq_t e8 (eq_b w260 (eq_t (bI_f (by rw [hk]; decide)) (eq_b w263 (eq_t (bI_f (by rw [hk]; decide)) (eq_b w264 (eq_t (bI_f (by rw [hk]; decide)) (eq_b w267 (eq_t (bI_f (by rw [hk]; decide)) (eq_b w269 (eq_t (bI_f (by rw [hk]; decide)) (eq_b w272 (eq_f (bz hk) ?_)))))))))))))
      exact bind_id
    rw [ey]
    refine saysS hn h hk ?_
    unfold fX4_readStatement
    exact eq_f (by rw [hk]; decide) (eq_f (by rw [hk]; decide) (eq_f (by rw [hk]; decide) (eq_f (by rw [hk]; decide) (eq_f (by rw [hk]; decide) (eq_f (by rw [hk]; decide) (eq_f (by rw [hk]; decide) (eq_f (by rw [hk]; decide) (eq_f (by rw [hk]; decide) (eq_f (by rw [hk]; decide) (eq_f (by rw [hk]; decide) (eq_f (by rw [hk]; decide) (eq_t hk rfl))))))))))))
  by_cases hk273 : gI MX 386 = 273
  · have hk := hk273
    have ey : fX12_statement n0 MY = fX12_reading n0 1 MY := by
      unfold fX12_statement
      refine eq_b (ylexG h.1 h8) (eq_t e8 (eq_b w260 (eq_t (bI_f (by rw [hk]; decide)) (eq_b w263 (eq_t (bI_f (by rw [hk]; decide)) (eq_b w264 (eq_t (bI_f (by rw [hk]; decide)) (eq_b w267 (eq_t (bI_f (by rw [hk]; decide)) (eq_b w269 (eq_t (bI_f (by rw [hk]; decide)) (eq_b w272 (eq_t (bI_f (by rw [hk]; decide)) (eq_b w273 (eq_f (bz hk) ?_)))))))))))))))
      exact bind_id
    rw [ey]
    refine goneS hn h hk ?_
    unfold fX4_readStatement
    exact eq_f (by rw [hk]; decide) (eq_f (by rw [hk]; decide) (eq_f (by rw [hk]; decide) (eq_f (by rw [hk]; decide) (eq_f (by rw [hk]; decide) (eq_f (by rw [hk]; decide) (eq_f (by rw [hk]; decide) (eq_f (by rw [hk]; decide) (eq_f (by rw [hk]; decide) (eq_f (by rw [hk]; decide) (eq_f (by rw [hk]; decide) (eq_f (by rw [hk]; decide) (eq_f (by rw [hk]; decide) (eq_t hk rfl)))))))))))))
  by_cases hk274 : gI MX 386 = 274
  · have hk := hk274
    left
    refine (passS (n0 := n0) (by omega) h hk).eq ?_ ?_
    · unfold fX4_readStatement xPass
      exact eq_f (by rw [hk]; decide) (eq_f (by rw [hk]; decide) (eq_f (by rw [hk]; decide) (eq_f (by rw [hk]; decide) (eq_f (by rw [hk]; decide) (eq_f (by rw [hk]; decide) (eq_f (by rw [hk]; decide) (eq_f (by rw [hk]; decide) (eq_f (by rw [hk]; decide) (eq_f (by rw [hk]; decide) (eq_f (by rw [hk]; decide) (eq_f (by rw [hk]; decide) (eq_f (by rw [hk]; decide) (eq_f (by rw [hk]; decide) (eq_t hk rfl))))))))))))))
    · unfold fX12_statement
      refine eq_b (ylexG h.1 h8) (eq_t e8 (eq_b w260 (eq_t (bI_f (by rw [hk]; decide)) (eq_b w263 (eq_t (bI_f (by rw [hk]; decide)) (eq_b w264 (eq_t (bI_f (by rw [hk]; decide)) (eq_b w267 (eq_t (bI_f (by rw [hk]; decide)) (eq_b w269 (eq_t (bI_f (by rw [hk]; decide)) (eq_b w272 (eq_t (bI_f (by rw [hk]; decide)) (eq_b w273 (eq_t (bI_f (by rw [hk]; decide)) (eq_b w274 (eq_f (bz hk) ?_)))))))))))))))))
      exact bind_id
  left; right
  refine ⟨sI (sI MX 391 1) 392 (gI MX 388), sI (sI MY 8 1) 9 (gI MX 388), ?_, ?_, Flt.mk (k := 1) (by decide) (by decide), FIf.q, FYf.b⟩
  · have ed : fX4_readStatement_365 n0 MX = some (0, sI (sI MX 391 1) 392 (gI MX 388)) := by
      unfold fX4_readStatement_365
      exact eq_b xfailH (eq_t (Or.inl rfl) rfl)
    unfold fX4_readStatement
    exact eq_f hk260 (eq_i (fun _ => ed) (fun _ => eq_i (fun _ => ed) (fun _ => eq_f hk263 (eq_f hk264 (eq_i (fun _ => ed) (fun _ => eq_i (fun _ => ed) (fun _ => eq_f hk267 (eq_i (fun _ => ed) (fun _ => eq_f hk269 (eq_i (fun _ => ed) (fun _ => eq_i (fun _ => ed) (fun _ => eq_f hk272 (eq_f hk273 (eq_f hk274 (ed)))))))))))))))
  · unfold fX12_statement
    rw [h.1.pl h8, ← h.1.at_]
    exact eq_b (ylexG h.1 h8) (eq_t e8 (eq_b w260 (eq_t (bI_f hk260) (eq_b w263 (eq_t (bI_f hk263) (eq_b w264 (eq_t (bI_f hk264) (eq_b w267 (eq_t (bI_f hk267) (eq_b w269 (eq_t (bI_f hk269) (eq_b w272 (eq_t (bI_f hk272) (eq_b w273 (eq_t (bI_f hk273) (eq_b w274 (eq_t (bI_f hk274) (eq_b (yblame0 h.1.f8) rfl))))))))))))))))))
end
section
/-! THE STATEMENTS ONE BY ONE -/
theorem yfskip {n0 L : Nat} {x1 : Int32} {M : Mem} (h16 : L ≤ 1600) (hL : gI M 2 = nI L) : ∀ (w p : Nat), p ≤ L → L < w + p → ∃ a, SkB (gA M 1) L p a ∧ loopN (bX12_finishes_17 n0) (fun _ _ _ => none) w x1 (nI p) M = fX12_finishes_53 n0 x1 (nI a) M := by
  intro w
  induction w with
  | zero => intro p _ h; omega
  | succ w ih =>
    intro p hp hw
    rw [lpS, bX12_finishes_17]
    have step : blk (gA M 1 p) → p < L → ∃ a, SkB (gA M 1) L p a ∧ fX12_finishes_47 n0 (loopN (bX12_finishes_17 n0) (fun _ _ _ => none) w) x1 (nI p) M = fX12_finishes_53 n0 x1 (nI a) M := by
      intro hb hpL
      obtain ⟨a, ha, e⟩ := ih (p + 1) (by omega) (by omega)
      refine ⟨a, ⟨by have := ha.1; omega, ha.2.1, fun i h1 h2 => ?_, ha.2.2.2⟩, ?_⟩
      · by_cases hi : i = p
        · rw [hi]; exact hb
        · exact ha.2.2.1 i (by omega) h2
      · unfold fX12_finishes_47
        rw [nI_1]
        exact e
    by_cases h : L ≤ p
    · exact ⟨p, ⟨Nat.le_refl p, hp, fun i h1 h2 => by omega, fun h1 => by omega⟩, eq_t (by rw [hL]; exact nI_le h (by omega)) rfl⟩
    · have hcl : (nI p).toNatClampNeg = p := nI_clamp (by omega)
      have g1 : ¬ gI M 2 ≤ nI p := by rw [hL]; exact nI_ge (by omega) (by omega)
      have o : ¬ oob (nI p) 1800 := nI_in (by omega) (by decide)
      simp only [hcl]
      by_cases hb : gA M 1 p = 32
      · obtain ⟨a, ha, e⟩ := step (Or.inl hb) (by omega)
        exact ⟨a, ha, eq_f g1 (eq_f o (eq_t hb e))⟩
      · by_cases hc : gA M 1 p = 10
        · obtain ⟨a, ha, e⟩ := step (Or.inr hc) (by omega)
          exact ⟨a, ha, eq_f g1 (eq_f o (eq_f hb (eq_f o (eq_t hc e))))⟩
        · refine ⟨p, ⟨Nat.le_refl p, hp, fun i h1 h2 => by omega, fun _ g => ?_⟩, eq_f g1 (eq_f o (eq_f hb (eq_f o (eq_f hc rfl))))⟩
          rcases g with g | g
          · exact hb g
          · exact hc g
/-- where the class's next token begins -/
theorem advSk {n0 L s s' e : Nat} {MX MY MX' : Mem} (hn : 1601 ≤ n0) (h : PR L s MX MY) (hs : s < L) (he : gI MX 390 = nI e) (he' : e ≤ L) (ha : fX8_advance n0 MX = some MX') (h' : gI MX' 387 = nI s') (hs' : s' ≤ 1600) : SkB (gA MX 6) L e s' := by
  obtain ⟨h0, hT, _⟩ := h
  obtain ⟨e2, b1, b2, b3, b4, b5⟩ := hT.2.2.2.1
  have h16 := h0.2.2.1
  have : e = e2 := (nI_eq (by omega) (by omega)).mp (he.symm.trans b1)
  subst this
  obtain ⟨M2, q1, ⟨s2, e3, q2, q3⟩, _⟩ := xadvance (n0 := n0) hn h16 h0.1 he' he (b5 hs).2.1 h0.2.2.2.2.1 h0.2.2.2.2.2
  rw [ha] at q1
  obtain rfl := Option.some.inj q1
  have := q2.2.1
  have : s' = s2 := (nI_eq (by omega) (by omega)).mp (h'.symm.trans q3.1)
  rw [this]
  exact q2
theorem yfinF {n0 : Nat} {x : Int32} {M : Mem} (h : ¬ gI M 8 ≤ 0) : fX12_finishes n0 x M = some M := by
  unfold fX12_finishes
  exact eq_b (ylexF h) (eq_f h rfl)
/-- the sign that ends a statement, the n-th -/
theorem finP {n0 L s n : Nat} {MX MY : Mem} (hn : 1700 ≤ n0) (h : PR L s MX MY) (hn80 : n ≤ 80) :
    (∃ MX' MY', fX8_skip n0 59 MX = some (0, MX') ∧ fX12_finishes n0 (nI n) MY = some MY' ∧ Flt MX' MY' ∧ FI 386 392 MX MX' ∧ FrY MY MY') ∨
    (∃ MX' MY' s', fX8_skip n0 59 MX = some (1, MX') ∧ fX12_finishes n0 (nI n) MY = some MY' ∧ s < s' ∧ PR L s' MX' MY' ∧ FI 386 392 MX MX' ∧ FrY MY MY' ∧ (n = 80 → gI MX' 386 = 259)) ∨
    (n = 80 ∧ ∃ MX' MY' s', fX8_skip n0 59 MX = some (1, MX') ∧ fX12_finishes n0 (nI n) MY = some MY' ∧ ¬ gI MX' 386 = 259 ∧ gI MX' 387 = nI s' ∧ gI MY' 8 = 6 ∧ gI MY' 9 = nI s' ∧ FI 386 392 MX MX' ∧ FrY MY MY') := by
  have e8 : gI MY 8 ≤ 0 := by rw [h.f8]; exact i00
  obtain ⟨e, b1, b2, b3, b4, b5⟩ := h.2.1.2.2.2.1
  have h16 := h.L16
  by_cases h8 : gI MX 386 = 258
  · left
    refine ⟨_, _, xskF (by rw [h8]; decide), ?_, Flt.mk (k := 1) (by decide) (by decide), FIf, FYf⟩
    unfold fX12_finishes
    exact eq_b (ylexB h h8) (eq_f (n8f (k := 1) (by decide) (by decide)) rfl)
  obtain ⟨a, hsk, ea⟩ := yfskip (n0 := n0) (x1 := nI n) h16 h.1.2.1 n0 e b4 (by omega)
  have yfin : ∀ r, fX12_finishes_53 n0 (nI n) (nI a) MY = r → fX12_finishes n0 (nI n) MY = r := fun r hr => by
    unfold fX12_finishes fX12_finishes_17
    refine eq_b (ylexG h h8) (eq_t e8 (eq_n ?_))
    rw [b2, ea]
    exact hr
  rcases skS (n0 := n0) (c := 59) (by omega) (by decide) h with ⟨MX1, MY1, s1, ex, ey, hs1, hP1, fx, fy⟩ | ⟨MX1, MY1, ex, ey, hF, fx, fy⟩
  rotate_left
  · left
    refine ⟨MX1, MY1, ex, yfin _ ?_, hF, fx, fy⟩
    have hk : ¬ gI MX 386 = 59 := fun g => by
      obtain ⟨A, B, _, e1, e2, _⟩ := h.adv (n0 := n0) (by omega) (h.2.1.2.2.2.2.lt (by rw [g]; decide))
      unfold fX8_skip at ex
      rw [if_pos g, e1] at ex
      exact absurd (congrArg Prod.fst (Option.some.inj ex)) i10
    unfold fX12_finishes_53 fX12_finishes_83
    exact eq_b (ySign (by decide) h) (eq_t (bI_f hk) (eq_b ey rfl))
  have hk : gI MX 386 = 59 := by
    refine Decidable.byContradiction (fun g => ?_)
    rw [xskF g] at ex
    exact absurd (congrArg Prod.fst (Option.some.inj ex)).symm i10
  have e83 : fX12_finishes_83 n0 MY = some MY1 := by
    unfold fX12_finishes_83
    exact eq_b ey rfl
  have hs := h.2.1.2.2.2.2.lt (by rw [hk]; decide)
  have hadv : fX8_advance n0 MX = some MX1 := by
    unfold fX8_skip at ex
    rw [if_pos hk] at ex
    cases hq : fX8_advance n0 MX with
    | none => rw [hq] at ex; cases ex
    | some z =>
      rw [hq] at ex
      have := congrArg Prod.snd (Option.some.inj ex)
      exact congrArg some this
  have hsk' : SkB (gA MX 6) L e s1 := advSk (n0 := n0) (by omega) h hs b1 b4 hadv hP1.st (by have := hP1.2.1.2.2.1; omega)
  rw [h.1.2.2.2.1] at hsk
  obtain rfl : a = s1 := hsk.uniq hsk'
  by_cases hn8 : n = 80
  · by_cases hz : L ≤ a
    · right; left
      have : a = L := by have := hsk.2.1; omega
      refine ⟨MX1, MY1, a, ex, yfin _ ?_, hs1, hP1, fx, fy, fun _ => ?_⟩
      · unfold fX12_finishes_53
        exact eq_b (ySign (by decide) h) (eq_f (bz hk) (eq_t (by rw [hn8]; rfl) (eq_t (by show gI MY 2 ≤ nI a; rw [h.1.2.1]; exact nI_le hz (by omega)) e83)))
      · refine Decidable.byContradiction (fun g => ?_)
        have := hP1.2.1.2.2.2.2.lt g
        omega
    · right; right
      have n6 : ¬ gI (sI (sI MY 8 6) 9 (nI a)) 8 ≤ 0 := n8f (k := 6) (by decide) (by decide)
      refine ⟨hn8, MX1, sI (sI MY 8 6) 9 (nI a), a, ex, yfin _ ?_, fun g => ?_, hP1.st, g8f, gI_at, fx, FYf⟩
      · unfold fX12_finishes_53
        refine eq_b (ySign (by decide) h) (eq_f (bz hk) (eq_t (by rw [hn8]; rfl) (eq_f (by show ¬ gI MY 2 ≤ nI a; rw [h.1.2.1]; exact nI_ge (by omega) (by omega)) (eq_b (yblame0 h.f8) ?_))))
        unfold fX12_finishes_83
        exact eq_b (ymustSF n6) rfl
      · rcases hP1.2.1.2.2.2.2 with z | z | z | z | z
        · exact hz (by omega)
        · rw [g] at z; exact absurd z.1 (by decide)
        · rw [g] at z; exact absurd z.1 (by decide)
        · rw [g] at z; exact absurd z.1.2 (by decide)
        · obtain ⟨_, _, _, _, v, w, k, _, hd, e1, _⟩ := z
          exact (kdOf_w hd).2 (e1.symm.trans g)
  · right; left
    refine ⟨MX1, MY1, a, ex, yfin _ ?_, hs1, hP1, fx, fy, fun g => absurd g hn8⟩
    have : ¬ nI n = 80 := fun g => hn8 ((nI_eq (a := n) (b := 80) (by omega) (by decide)).mp g)
    unfold fX12_finishes_53
    exact eq_b (ySign (by decide) h) (eq_f (bz hk) (eq_f this e83))
end
section
/-! ALL STATEMENTS -/
/-- what the class may change while it reads a town -/
def FX3 (q : Nat) (M M' : Mem) : Prop := (∀ k, ¬ (rgX q k ∨ k = 128 * q) → gI M' k = gI M k) ∧ (∀ a, ¬ (q ≤ a ∧ a < q + 16) → gA M' a = gA M a) ∧ (∀ k, k ≠ 257 → gR M' k = gR M k)
theorem FX3.r {q : Nat} {M : Mem} : FX3 q M M := ⟨fun _ _ => rfl, fun _ _ => rfl, fun _ _ => rfl⟩
theorem FX3.tr {q : Nat} {M M' M2 : Mem} (h : FX3 q M M') (g : FX3 q M' M2) : FX3 q M M2 := ⟨fun k r => (g.1 k r).trans (h.1 k r), fun a r => (g.2.1 a r).trans (h.2.1 a r), fun k r => (g.2.2 k r).trans (h.2.2 k r)⟩
theorem FX2.t {q : Nat} {M M' : Mem} (h : FX2 q M M') : FX3 q M M' := ⟨fun k r => h.1 k (fun g => r (Or.inl g)), h.2⟩
theorem FX3.i {q k : Nat} {v : Int32} {M M' : Mem} (h : FX3 q M M') (hk : rgX q k ∨ k = 128 * q) : FX3 q M (sI M' k v) := ⟨fun j r => by rw [gI_ne (fun e => r (by rw [e]; exact hk))]; exact h.1 j r, h.2.1, h.2.2⟩
theorem FX2.s0 {q : Nat} {M M' : Mem} (h : FX2 q M M') (hq : q = 31 ∨ q = 47) : gI M' (128 * q) = gI M (128 * q) := h.1 _ (by unfold rgX; omega)
theorem rdL {n0 L q b q1 : Nat} (hn : 1700 ≤ n0) : ∀ (w j s nt nc nd nr C : Nat) (MX MY : Mem), Rd L s q b nt nc nd nr C MX MY → gI MX (128 * q) = nI j → j ≤ 80 → (j = 80 → gI MX 386 = 259) → 83 ≤ w + j →
    (∃ MX' MY' s' nt' nc' nd' nr' C' j', loopN (bX4_read_21 n0 q1) (fun _ _ => none) w (nI j) MX = some (1, MX') ∧ loopN (bX12_town_167 n0) (fun _ _ => none) w (nI j) MY = fX12_town_196 n0 (nI j') MY' ∧ j' ≤ 80 ∧ gI MX' 386 = 259 ∧ Rd L s' q b nt' nc' nd' nr' C' MX' MY' ∧ gI MX' (128 * q) = nI j' ∧ FX3 q MX MX' ∧ FY2 b MY MY') ∨
    (∃ MX' MY' j', loopN (bX4_read_21 n0 q1) (fun _ _ => none) w (nI j) MX = some (0, MX') ∧ loopN (bX12_town_167 n0) (fun _ _ => none) w (nI j) MY = fX12_town_196 n0 (nI j') MY' ∧ Flt MX' MY' ∧ FX3 q MX MX' ∧ FY2 b MY MY') := by
  intro w
  induction w with
  | zero => intro j s nt nc nd nr C MX MY _ _ h1 _ h2; omega
  | succ w ih =>
    intro j s nt nc nd nr C MX MY h hj0 hj80 hjE hw
    have hP := h.1
    have hA := h.2.1
    have q7 := hA.2.1
    by_cases h9 : gI MX 386 = 259
    · left
      have y3 : gI MY 3 = 0 := by
        rcases hP.2.1.2.2.2.2 with z | z | z | z | z
        · exact z.2.2.1
        · rw [h9] at z; exact absurd z.1 (by decide)
        · rw [h9] at z; exact absurd z.1 (by decide)
        · rw [h9] at z; exact absurd z.1.2 (by decide)
        · obtain ⟨_, _, _, _, v, w, k, _, hd, e1, _⟩ := z
          exact absurd (e1.symm.trans h9) (kdOf_w hd).2
      refine ⟨MX, MY, s, nt, nc, nd, nr, C, j, ?_, ?_, hj80, h9, h, hj0, FX3.r, FY2.r⟩
      · rw [lpS, bX4_read_21]
        have e80 : fX4_read_80 n0 q1 MX = some (1, MX) := by
          unfold fX4_read_80
          exact eq_t h9 rfl
        exact eq_i (fun _ => e80) (fun _ => eq_t h9 e80)
      · rw [lpS, bX12_town_167]
        exact eq_t hP.f8 (eq_t y3 rfl)
    have hj : j < 80 := by
      rcases Nat.lt_or_ge j 80 with z | z
      · exact z
      · exact absurd (hjE (by omega)) h9
    have g80 : ¬ (80 : Int32) ≤ nI j := nI_ge (b := 80) hj (by decide)
    have y3 : ¬ gI MY 3 = 0 := by
      rcases hP.2.1.2.2.2.2 with z | z | z | z | z
      · exact absurd z.1 h9
      · rcases z.2.2.1 with y | y <;> rw [y] <;> decide
      · rw [z.2.2.1]; decide
      · rw [z.2.2.1]; decide
      · rw [z.2.1]; decide
    obtain ⟨w2, rfl⟩ : ∃ v, w = v + 1 := ⟨w - 1, by omega⟩
    have yend : ∀ (MY1 MY2 : Mem), fX12_statement n0 MY = some MY1 → fX12_finishes n0 (nI (j + 1)) MY1 = some MY2 → ¬ gI MY2 8 = 0 → loopN (bX12_town_167 n0) (fun _ _ => none) (w2 + 1 + 1) (nI j) MY = fX12_town_196 n0 (nI (j + 1)) MY2 := fun MY1 MY2 e1 e2 e3 => by
      rw [lpS, bX12_town_167]
      refine eq_t hP.f8 (eq_f y3 (eq_b e1 ?_))
      rw [nI_1]
      refine eq_b e2 ?_
      rw [lpS, bX12_town_167]
      exact eq_f e3 rfl
    rcases stmtP hn h h9 with (⟨MX1, MY1, s1, nt1, nc1, nd1, nr1, C1, ex, ey, hs1, hR1, fx1, fy1⟩ | ⟨MX1, MY1, ex, ey, hF, fx1, fy1⟩) | ⟨MX1, MY1, ex, ey, k8, f8, f9, fx1, fy1⟩
    · have hP1 := hR1.1
      rcases finP (n := j + 1) hn hP1 (by omega) with ⟨MX2, MY2, ex2, ey2, hF, fx2, fy2⟩ | ⟨MX2, MY2, s2, ex2, ey2, hs2, hP2, fx2, fy2, h80⟩ | ⟨h80, MX2, MY2, s2, ex2, ey2, n9, m387, m8, m9, fx2, fy2⟩
      · right
        refine ⟨MX2, MY2, j + 1, ?_, yend MY1 MY2 ey ey2 (pos_ne hF.pos), hF, fx1.t.tr fx2.q.t, fy1.tr fy2.b⟩
        rw [lpS, bX4_read_21]
        exact eq_f g80 (eq_f h9 (eq_b ex (eq_f i10 (eq_b ex2 (eq_t rfl rfl)))))
      · have g130 : gR MX2 130 = q := by rw [fx2.R]; exact hR1.2.1.1
        have c0 : gI MX2 (128 * q) = nI j := by
          rw [fx2.2 _ (by omega), fx1.s0 q7]
          exact hj0
        have hT2 : TownR q b nt1 nc1 nd1 nr1 C1 MX2 MY2 := hR1.2.2.1.tok q7 fx2 fy2
        have hR3 : Rd L s2 q b nt1 nc1 nd1 nr1 C1 (sI MX2 (128 * q) (nI (j + 1))) MY2 := by
          refine ⟨hP2.cong (fun i h1 h2 => gI_ne (by omega)) (gI_ne (by omega)) rfl rfl (fun _ _ => rfl) rfl rfl, ⟨g130, q7, (fy2.1 34 (by omega)).trans hR1.2.1.2.2.1, hA.2.2.2⟩, hT2.cong (fun i h1 h2 => gI_ne (by omega)) (fun _ _ _ => rfl) (fun _ _ _ _ => rfl) (fun _ _ _ => rfl), (fy2.1 33 (by omega)).trans hR1.2.2.2.1, by have := hR1.2.2.2.2; omega⟩
        have xst : ∀ r, loopN (bX4_read_21 n0 q1) (fun _ _ => none) (w2 + 1) (nI (j + 1)) (sI MX2 (128 * q) (nI (j + 1))) = r → loopN (bX4_read_21 n0 q1) (fun _ _ => none) (w2 + 1 + 1) (nI j) MX = r := fun r hr => by
          rw [lpS, bX4_read_21]
          refine eq_f g80 (eq_f h9 (eq_b ex (eq_f i10 (eq_b ex2 (eq_f i10 (eq_n ?_))))))
          show loopN (bX4_read_21 n0 q1) (fun _ _ => none) (w2 + 1) (nI j + 1) (sI MX2 (128 * gR MX2 130 + 0) (gI MX2 (128 * gR MX2 130 + 0) + 1)) = r
          rw [g130, show 128 * q + 0 = 128 * q from rfl, c0, nI_1]
          exact hr
        have yst : ∀ r, loopN (bX12_town_167 n0) (fun _ _ => none) (w2 + 1) (nI (j + 1)) MY2 = r → loopN (bX12_town_167 n0) (fun _ _ => none) (w2 + 1 + 1) (nI j) MY = r := fun r hr => by
          rw [lpS, bX12_town_167]
          refine eq_t hP.f8 (eq_f y3 (eq_b ey ?_))
          rw [nI_1]
          exact eq_b ey2 hr
        have fxx : FX3 q MX (sI MX2 (128 * q) (nI (j + 1))) := (fx1.t.tr fx2.q.t).i (Or.inr rfl)
        have fyy : FY2 b MY MY2 := fy1.tr fy2.b
        rcases ih (j + 1) s2 nt1 nc1 nd1 nr1 C1 _ MY2 hR3 gI_at (by omega) (fun g => by rw [gI_ne (by omega)]; exact h80 g) (by omega) with ⟨A, B, s', n1, n2, n3, n4, n5, j', z1, z2, z3, z4, z5, z6, z7, z8⟩ | ⟨A, B, j', z1, z2, z3, z4, z5⟩
        · exact Or.inl ⟨A, B, s', n1, n2, n3, n4, n5, j', xst _ z1, yst _ z2, z3, z4, z5, z6, fxx.tr z7, fyy.tr z8⟩
        · exact Or.inr ⟨A, B, j', xst _ z1, yst _ z2, z3, fxx.tr z4, fyy.tr z5⟩
      · right
        have g130 : gR MX2 130 = q := by rw [fx2.R]; exact hR1.2.1.1
        refine ⟨sI (sI (sI MX2 (128 * q + 0) (gI MX2 (128 * q + 0) + 1)) 391 6) 392 (nI s2), MY2, j + 1, ?_, yend MY1 MY2 ey ey2 (by rw [m8]; decide), ⟨6, by decide, by decide, by rw [gI_ne (by decide), gI_at]; rfl, m8, by rw [gI_at]; exact m9⟩, ((((fx1.t.tr fx2.q.t).i (Or.inr (Nat.add_zero _))).i (Or.inl (by unfold rgX; omega))).i (Or.inl (by unfold rgX; omega))), fy1.tr fy2.b⟩
        rw [lpS, bX4_read_21]
        refine eq_f g80 (eq_f h9 (eq_b ex (eq_f i10 (eq_b ex2 (eq_f i10 (eq_n ?_))))))
        show loopN (bX4_read_21 n0 q1) (fun _ _ => none) (w2 + 1) (nI j + 1) (sI MX2 (128 * gR MX2 130 + 0) (gI MX2 (128 * gR MX2 130 + 0) + 1)) = _
        rw [g130, nI_1, lpS, bX4_read_21]
        refine eq_t (by rw [h80]; decide) ?_
        unfold fX4_read_80
        refine eq_f (by rw [gI_ne (by omega)]; exact n9) (eq_b xfail (eq_t rfl ?_))
        show some ((0 : Int32), sI (sI (sI MX2 (128 * q + 0) (gI MX2 (128 * q + 0) + 1)) 391 6) 392 (gI (sI MX2 (128 * q + 0) (gI MX2 (128 * q + 0) + 1)) 387)) = _
        rw [gI_ne (by omega), m387]
    · right
      refine ⟨MX1, MY1, j + 1, ?_, yend MY1 MY1 ey (yfinF hF.pos) (pos_ne hF.pos), hF, fx1.t, fy1⟩
      rw [lpS, bX4_read_21]
      exact eq_f g80 (eq_f h9 (eq_b ex (eq_t rfl rfl)))
    · right
      have p8 : ¬ gI MY1 8 ≤ 0 := by rw [f8]; decide
      refine ⟨sI (sI MX1 391 1) 392 (gI MX1 388), MY1, j + 1, ?_, yend MY1 MY1 ey (yfinF p8) (pos_ne p8), ⟨1, by decide, by decide, by rw [gI_ne (by decide), gI_at]; rfl, f8, by rw [gI_at]; exact f9⟩, (fx1.t.i (Or.inl (by unfold rgX; omega))).i (Or.inl (by unfold rgX; omega)), fy1⟩
      rw [lpS, bX4_read_21]
      exact eq_f g80 (eq_f h9 (eq_b ex (eq_f i10 (eq_b (xskF (by rw [k8]; decide)) (eq_t rfl rfl)))))
end
section
/-! A TOWN IS READ: the start of it on both sides -/
/-- only int arrays are other than before, and of them these cells alone -/
def OnlyA (P : Nat → Nat → Prop) (M M' : Mem) : Prop := gI M' = gI M ∧ gR M' = gR M ∧ gL M' = gL M ∧ gB M' = gB M ∧ ∀ a i, ¬ P a i → gA M' a i = gA M a i
theorem t123 {n0 b a : Nat} {k116 : Int32 → Mem → Option (Int32 × Mem)} (hb : b ≤ 1) (ha : a < 5) : ∀ (w c : Nat) (M : Mem), c ≤ 5 → 5 < w + c → gI M 34 = nI b → ∃ M', loopN (bX12_town_123 n0 k116) (fun _ _ _ => none) w (nI a) (nI c) M = k116 (nI (a + 1)) M' ∧ OnlyA (fun e i => e = 8 ∧ 25 * b + (5 * a + c) ≤ i ∧ i < 25 * b + (5 * a + 5)) M M' ∧ ∀ i, 25 * b + (5 * a + c) ≤ i → i < 25 * b + (5 * a + 5) → gA M' 8 i = 0 := by
  intro w
  induction w with
  | zero => intro c M _ h; omega
  | succ w ih =>
    intro c M hc hw h34
    rw [lpS, bX12_town_123]
    by_cases g : 5 ≤ c
    · refine ⟨M, eq_t (nI_le (a := 5) g (by omega)) (by rw [nI_1]), ⟨rfl, rfl, rfl, rfl, fun _ _ _ => rfl⟩, fun i h1 h2 => by omega⟩
    · have ea : fX12_at n0 (gI M 34) (nI a) (nI c) M = some (nI (25 * b + (5 * a + c)), M) := by rw [h34]; exact yat
      have hcl : (nI (25 * b + (5 * a + c))).toNatClampNeg = 25 * b + (5 * a + c) := nI_clamp (by omega)
      obtain ⟨M', e1, e2, e3⟩ := ih (c + 1) (sA M 8 (25 * b + (5 * a + c)) 0) (by omega) (by omega) h34
      refine ⟨M', eq_f (nI_ge (b := 5) (by omega) (by decide)) (eq_b ea (eq_f (nI_in (by omega) (by decide)) (eq_n ?_))), ⟨e2.1, e2.2.1, e2.2.2.1, e2.2.2.2.1, fun e i h => ?_⟩, fun i h1 h2 => ?_⟩
      · show loopN (bX12_town_123 n0 k116) (fun _ _ _ => none) w (nI a) (nI c + 1) (sA M 8 (nI (25 * b + (5 * a + c))).toNatClampNeg 0) = _
        rw [hcl, nI_1]
        exact e1
      · rw [e2.2.2.2.2 e i (by omega), gA_sA]
        by_cases q : e = 8
        · rw [if_pos q, if_neg (by omega), q]
        · rw [if_neg q]
      · by_cases q : i = 25 * b + (5 * a + c)
        · rw [e2.2.2.2.2 8 i (by omega), gA_sA, if_pos rfl, if_pos q]
        · exact e3 i (by omega) h2
/-- what follows the clearing of the roads -/
def yCont (n0 : Nat) (M : Mem) : Option (Int32 × Mem) := bnd (sI M 33 (0 : Int32)) fun M158 => (fX12_ahead n0 M158).bind fun z164 => fX12_town_167 n0 (0 : Int32) z164
theorem t116 {n0 b : Nat} (hn : 1700 ≤ n0) (hb : b ≤ 1) : ∀ (w a : Nat) (M : Mem), a ≤ 5 → 5 < w + a → gI M 34 = nI b → ∃ M', loopN (bX12_town_116 n0) (fun _ _ => none) w (nI a) M = yCont n0 M' ∧ OnlyA (fun e i => e = 8 ∧ 25 * b + 5 * a ≤ i ∧ i < 25 * b + 25) M M' ∧ ∀ i, 25 * b + 5 * a ≤ i → i < 25 * b + 25 → gA M' 8 i = 0 := by
  intro w
  induction w with
  | zero => intro a M _ h; omega
  | succ w ih =>
    intro a M ha hw h34
    rw [lpS, bX12_town_116]
    by_cases g : 5 ≤ a
    · exact ⟨M, eq_t (nI_le (a := 5) g (by omega)) rfl, ⟨rfl, rfl, rfl, rfl, fun _ _ _ => rfl⟩, fun i h1 h2 => by omega⟩
    · obtain ⟨M1, e1, e2, e3⟩ := t123 (n0 := n0) (k116 := loopN (bX12_town_116 n0) (fun _ _ => none) w) hb (show a < 5 by omega) n0 0 M (by omega) (by omega) h34
      obtain ⟨M2, d1, d2, d3⟩ := ih (a + 1) M1 (by omega) (by omega) (by rw [e2.1]; exact h34)
      refine ⟨M2, eq_f (nI_ge (b := 5) (by omega) (by decide)) (e1.trans d1), ⟨d2.1.trans e2.1, d2.2.1.trans e2.2.1, d2.2.2.1.trans e2.2.2.1, d2.2.2.2.1.trans e2.2.2.2.1, fun e i h => ?_⟩, fun i h1 h2 => ?_⟩
      · rw [d2.2.2.2.2 e i (by omega), e2.2.2.2.2 e i (by omega)]
      · by_cases q : i < 25 * b + (5 * a + 5)
        · rw [d2.2.2.2.2 8 i (by omega)]
          exact e3 i (by omega) q
        · exact d3 i (by omega) h2
/-- the class's memory ahead of its first token -/
def xTown (q : Nat) (M : Mem) : Mem := sI (sI (sI (sI (sI (sI (sI (sI (sI (sI (sI (sI (sR M 130 q) (128 * q + 0) 0) (128 * q + 1) 0) (128 * q + 5) 0) (128 * q + 8) 0) (128 * q + 12) 0) (128 * q + 16) 0) (128 * (q + 12) + 1) 0) (128 * (q + 14) + 1) 0) 391 0) 392 (-1)) 386 259) 390 0
theorem xread {n0 q : Nat} {M MX1 : Mem} (ha : fX8_advance n0 (xTown q M) = some MX1) : fX4_read n0 q M = fX4_read_21 n0 q 0 MX1 := by
  have g : gR (sR M 130 q) 130 = q := by rw [gR_sR, if_pos rfl]
  unfold fX4_read fX9_clear fX8_begin
  refine eq_n ?_
  rw [g]
  exact eq_b rfl (eq_b (eq_n (eq_n (eq_n (eq_n (eq_b ha rfl))))) rfl)
/-- the reference's memory ahead of the clearing of the roads -/
def yTown (b : Nat) (M : Mem) : Mem := sA (sA (sA (sA (sA (sA (sA (sI (sI (sI (sI (sI (sI M 2 (gI M 1)) 1 0) 5 0) 8 0) 9 (-1)) 34 (nI b)) 2 b 0) 5 b 0) 7 b 0) 10 b 0) 13 b 0) 14 (2 * b) (-1)) 14 (2 * b + 1) (-1)
theorem clr {ρ : Type} {M : Mem} {n a j : Nat} {i v : Int32} {k : Mem → Option ρ} {r : Option ρ} (e : i = nI j) (hj : j < 4) (hn : ¬ oob (nI j) n) (h : k (sA M a j v) = r) : (if oob i n then none else bnd (sA M a i.toNatClampNeg v) k) = r := by
  subst e
  refine eq_f hn (eq_n ?_)
  rw [nI_clamp (by omega)]
  exact h
theorem ytown {n0 b : Nat} {M : Mem} (hb : b ≤ 1) (h13 : gI M 13 = nI (1 - b)) : fX12_town n0 M = fX12_town_116 n0 0 (yTown b M) := by
  have e34 : (1 : Int32) - gI (sI (sI (sI (sI (sI M 2 (gI M 1)) 1 0) 5 0) 8 0) 9 (-1)) 13 = nI b := by
    rw [gI_ne (by decide), gI_ne (by decide), gI_ne (by decide), gI_ne (by decide), gI_ne (by decide), h13]
    have : b = 0 ∨ b = 1 := by omega
    rcases this with q | q <;> rw [q] <;> decide
  have o : ¬ oob (nI b) 2 := nI_in (by omega) (by decide)
  have m2 : (2 : Int32) * nI b = nI (2 * b) := by rw [← nI_mul]; rfl
  have m3 : (2 : Int32) * nI b + 1 = nI (2 * b + 1) := by rw [m2]; exact nI_1 _
  have o2 : ¬ oob (nI (2 * b)) 4 := nI_in (by omega) (by decide)
  have o3 : ¬ oob (nI (2 * b + 1)) 4 := nI_in (by omega) (by decide)
  unfold fX12_town yTown
  refine eq_n (eq_n (eq_n (eq_n (eq_n (eq_n ?_)))))
  rw [e34]
  refine clr (j := b) (by simp only [gI_sA, gI_at]) (by omega) o ?_
  refine clr (j := b) (by simp only [gI_sA, gI_at]) (by omega) o ?_
  refine clr (j := b) (by simp only [gI_sA, gI_at]) (by omega) o ?_
  refine clr (j := b) (by simp only [gI_sA, gI_at]) (by omega) o ?_
  refine clr (j := b) (by simp only [gI_sA, gI_at]) (by omega) o ?_
  refine clr (j := 2 * b) ((congrArg (fun z : Int32 => (2 : Int32) * z) (show _ = nI b by simp only [gI_sA, gI_at])).trans m2) (by omega) o2 ?_
  refine clr (j := 2 * b + 1) ((congrArg (fun z : Int32 => (2 : Int32) * z + 1) (show _ = nI b by simp only [gI_sA, gI_at])).trans m3) (by omega) o3 ?_
  rfl
end
section
/-! A TOWN IS READ: from the call to the last statement on both sides -/
theorem rX_s {q k : Nat} {v : Int32} {M M' : Mem} (h : FX3 q M M') (hk : rgX q k ∨ k = 128 * q) : FX3 q M (sI M' k v) := h.i hk
/-- what the class may change while a town is read, with the reader's town -/
def FX4 (q : Nat) (M M' : Mem) : Prop := (∀ k, ¬ (rgX q k ∨ k = 128 * q) → gI M' k = gI M k) ∧ (∀ a, ¬ (q ≤ a ∧ a < q + 16) → gA M' a = gA M a) ∧ (∀ k, k ≠ 257 → k ≠ 130 → gR M' k = gR M k)
/-- what the reference may change while a town is read -/
def FY4 (b : Nat) (M M' : Mem) : Prop := (∀ k, ¬ (regI k ∨ k = 1 ∨ k = 2 ∨ k = 34) → gI M' k = gI M k) ∧ (∀ a i, ¬ regA b a i → gA M' a i = gA M a i) ∧ (∀ k, k ≠ 7 → gL M' k = gL M k) ∧ (∀ a i, ¬ regB b a i → gB M' a i = gB M a i)
theorem FY2.f {b : Nat} {M M' : Mem} (h : FY2 b M M') : FY4 b M M' := ⟨fun k g => h.1 k (fun z => g (Or.inl z)), h.2⟩
theorem FY4.tr {b : Nat} {M M' M2 : Mem} (h : FY4 b M M') (g : FY4 b M' M2) : FY4 b M M2 := ⟨fun k q => (g.1 k q).trans (h.1 k q), fun a i q => (g.2.1 a i q).trans (h.2.1 a i q), fun k q => (g.2.2.1 k q).trans (h.2.2.1 k q), fun a i q => (g.2.2.2 a i q).trans (h.2.2.2 a i q)⟩
theorem FY4.i {b k : Nat} {v : Int32} {M M' : Mem} (h : FY4 b M M') (hk : regI k ∨ k = 1 ∨ k = 2 ∨ k = 34) : FY4 b M (sI M' k v) := ⟨fun j q => by rw [gI_ne (fun e => q (by rw [e]; exact hk))]; exact h.1 j q, h.2.1, h.2.2.1, h.2.2.2⟩
theorem FY4.a {b a i : Nat} {v : Int32} {M M' : Mem} (h : FY4 b M M') (hk : regA b a i) : FY4 b M (sA M' a i v) := ⟨h.1, fun c j q => by
  rw [gA_sA]
  by_cases e : c = a
  · subst e
    rw [if_pos rfl, if_neg (fun e => q (by rw [e]; exact hk))]
    exact h.2.1 _ _ q
  · rw [if_neg e]
    exact h.2.1 _ _ q, h.2.2.1, h.2.2.2⟩
theorem FY4.r {b : Nat} {M : Mem} : FY4 b M M := ⟨fun _ _ => rfl, fun _ _ _ => rfl, fun _ _ => rfl, fun _ _ _ => rfl⟩
theorem xTown_f {q : Nat} {M : Mem} (hq : q = 31 ∨ q = 47) : FX4 q M (xTown q M) := by
  have h : FX3 q (sR M 130 q) (xTown q M) := by
    unfold xTown
    refine FX3.i (FX3.i (FX3.i (FX3.i (FX3.i (FX3.i (FX3.i (FX3.i (FX3.i (FX3.i (FX3.i (FX3.i FX3.r ?_) ?_) ?_) ?_) ?_) ?_) ?_) ?_) ?_) ?_) ?_) ?_ <;> (unfold rgX; omega)
  exact ⟨fun k g => h.1 k g, fun a g => h.2.1 a g, fun k g g2 => (h.2.2 k g).trans (by rw [gR_sR, if_neg g2])⟩
theorem yTown_f {b : Nat} {M : Mem} (hb : b ≤ 1) : FY4 b M (yTown b M) := by
  unfold yTown
  refine FY4.a (FY4.a (FY4.a (FY4.a (FY4.a (FY4.a (FY4.a (FY4.i (FY4.i (FY4.i (FY4.i (FY4.i (FY4.i FY4.r ?_) ?_) ?_) ?_) ?_) ?_) ?_) ?_) ?_) ?_) ?_) ?_) ?_ <;> first | (unfold regI; omega) | (unfold regA; omega)
theorem townC {n0 L q b : Nat} {MX MY : Mem} (hn : 1700 ≤ n0) (hq : q = 31 ∨ q = 47) (hb : b ≤ 1) (h13 : gI MY 13 = nI (1 - b)) (h16 : L ≤ 1600) (hx : gI MX 641 = nI L) (hy : gI MY 1 = nI L) (hT : gA MY 1 = gA MX 6) (hby : Byt (gA MX 6) L) (hO : ∀ i, i < 25 → gA MX 4 i = nI (ownC i)) :
    (∃ MX' MY' s nt nc nd nr C j, fX4_read n0 q MX = some (1, MX') ∧ fX12_town n0 MY = fX12_town_196 n0 (nI j) MY' ∧ j ≤ 80 ∧ Rd L s q b nt nc nd nr C MX' MY' ∧ gI MX' (128 * q) = nI j ∧ FX4 q MX MX' ∧ FY4 b MY MY' ∧ gI MY' 1 = 0) ∨
    (∃ MX' MY' j, fX4_read n0 q MX = some (0, MX') ∧ fX12_town n0 MY = fX12_town_196 n0 (nI j) MY' ∧ Flt MX' MY' ∧ FX4 q MX MX' ∧ FY4 b MY MY' ∧ gI MY' 1 = 0) := by
  have fX := xTown_f (M := MX) hq
  have fY := yTown_f (M := MY) hb
  have y34 : gI (yTown b MY) 34 = nI b := by unfold yTown; simp only [gI_sA, gI_at]
  have y2 : gI (yTown b MY) 2 = nI L := by unfold yTown; simp only [gI_sA, gI_sI]; rw [if_neg (by decide), if_neg (by decide), if_neg (by decide), if_neg (by decide), if_neg (by decide), if_pos trivial]; exact hy
  have y5 : gI (yTown b MY) 5 = nI 0 := by unfold yTown; simp only [gI_sA, gI_sI]; rfl
  have y8 : gI (yTown b MY) 8 = 0 := by unfold yTown; simp only [gI_sA, gI_sI]; rfl
  have y9 : gI (yTown b MY) 9 = -1 := by unfold yTown; simp only [gI_sA, gI_sI]; rfl
  obtain ⟨N1, e1, o1, z1⟩ := t116 hn hb n0 0 (yTown b MY) (by omega) (by omega) y34
  have gN : ∀ k, ¬ k = 33 → gI (sI N1 33 0) k = gI (yTown b MY) k := fun k hk => by rw [gI_ne hk, o1.1]
  have f2 : FY2 b (yTown b MY) (sI N1 33 0) := FY2.i ⟨fun k _ => by rw [o1.1], fun a i g => o1.2.2.2.2 a i (fun z => g (by unfold regA; omega)), fun k _ => by rw [o1.2.2.1], fun a i _ => by rw [o1.2.2.2.1]⟩ (by unfold regI; omega)
  have a1 : gA (sI N1 33 0) 1 = gA (xTown q MX) 6 := by
    rw [fX.2.1 6 (by omega), ← hT]
    funext i
    exact (f2.2.1 1 i (by unfold regA; omega)).trans (fY.2.1 1 i (by unfold regA; omega))
  have hL0 : Lex0 L (xTown q MX) (sI N1 33 0) := ⟨(fX.1 641 (by unfold rgX; omega)).trans hx, (gN 2 (by decide)).trans y2, h16, a1, by rw [fX.2.1 6 (by omega)]; exact hby, by rw [fX.2.1 4 (by omega)]; exact hO⟩
  have x386 : gI (xTown q MX) 386 = 259 := by unfold xTown; rw [gI_ne (by decide), gI_at]
  obtain ⟨MX1, N3, s, e3, e4, _, hTok, g3, g4⟩ := adv2 (n0 := n0) (p := 0) (by omega) hL0 (by omega) (by unfold xTown; rw [gI_at]; rfl) ((gN 5 (by decide)).trans y5) (by rw [x386]; exact ⟨fun z => absurd rfl z.2, fun z => absurd z.1 (by omega)⟩)
  have hx2 : ∀ k, k < 386 ∨ 390 < k → gI MX1 k = gI (xTown q MX) k := g3.2
  have hy2 : ∀ k, ¬ ((3 ≤ k ∧ k ≤ 6) ∨ k = 12) → gI N3 k = gI (sI N1 33 0) k := g4.1
  have hyA : ∀ a i, gA N3 a i = gA N1 a i := fun a i => by rw [g4.2.1 a id]; rfl
  have yA : ∀ a i, ¬ a = 8 → gA N3 a i = gA (yTown b MY) a i := fun a i h => (hyA a i).trans (o1.2.2.2.2 a i (fun z => h z.1))
  have nf : ∀ {α : Type} {a c : Nat} {x y : α}, ¬ a = c → (if a = c then x else y) = y := fun h => if_neg h
  have c2 : gA (yTown b MY) 2 b = 0 := by unfold yTown; rw [gA_sA, nf (by decide), gA_sA, nf (by decide), gA_sA, nf (by decide), gA_sA, nf (by decide), gA_sA, nf (by decide), gA_sA, nf (by decide), gA_sA, if_pos rfl, if_pos rfl]
  have c5 : gA (yTown b MY) 5 b = 0 := by unfold yTown; rw [gA_sA, nf (by decide), gA_sA, nf (by decide), gA_sA, nf (by decide), gA_sA, nf (by decide), gA_sA, nf (by decide), gA_sA, if_pos rfl, if_pos rfl]
  have c7 : gA (yTown b MY) 7 b = 0 := by unfold yTown; rw [gA_sA, nf (by decide), gA_sA, nf (by decide), gA_sA, nf (by decide), gA_sA, nf (by decide), gA_sA, if_pos rfl, if_pos rfl]
  have c10 : gA (yTown b MY) 10 b = 0 := by unfold yTown; rw [gA_sA, nf (by decide), gA_sA, nf (by decide), gA_sA, nf (by decide), gA_sA, if_pos rfl, if_pos rfl]
  have c13 : gA (yTown b MY) 13 b = 0 := by unfold yTown; rw [gA_sA, nf (by decide), gA_sA, nf (by decide), gA_sA, if_pos rfl, if_pos rfl]
  have c14 : gA (yTown b MY) 14 (2 * b) = -1 := by unfold yTown; rw [gA_sA, if_pos rfl, nf (by omega), gA_sA, if_pos rfl, if_pos rfl]
  have c15 : gA (yTown b MY) 14 (2 * b + 1) = -1 := by unfold yTown; rw [gA_sA, if_pos rfl, if_pos rfl]
  have d0 : gI (xTown q MX) (128 * q + 0) = 0 := by unfold xTown; rw [gI_ne (by omega), gI_ne (by omega), gI_ne (by omega), gI_ne (by omega), gI_ne (by omega), gI_ne (by omega), gI_ne (by omega), gI_ne (by omega), gI_ne (by omega), gI_ne (by omega), gI_ne (by omega), gI_at]
  have d1 : gI (xTown q MX) (128 * q + 1) = 0 := by unfold xTown; rw [gI_ne (by omega), gI_ne (by omega), gI_ne (by omega), gI_ne (by omega), gI_ne (by omega), gI_ne (by omega), gI_ne (by omega), gI_ne (by omega), gI_ne (by omega), gI_ne (by omega), gI_at]
  have d5 : gI (xTown q MX) (128 * q + 5) = 0 := by unfold xTown; rw [gI_ne (by omega), gI_ne (by omega), gI_ne (by omega), gI_ne (by omega), gI_ne (by omega), gI_ne (by omega), gI_ne (by omega), gI_ne (by omega), gI_ne (by omega), gI_at]
  have d8 : gI (xTown q MX) (128 * q + 8) = 0 := by unfold xTown; rw [gI_ne (by omega), gI_ne (by omega), gI_ne (by omega), gI_ne (by omega), gI_ne (by omega), gI_ne (by omega), gI_ne (by omega), gI_ne (by omega), gI_at]
  have d12 : gI (xTown q MX) (128 * q + 12) = 0 := by unfold xTown; rw [gI_ne (by omega), gI_ne (by omega), gI_ne (by omega), gI_ne (by omega), gI_ne (by omega), gI_ne (by omega), gI_ne (by omega), gI_at]
  have d16 : gI (xTown q MX) (128 * q + 16) = 0 := by unfold xTown; rw [gI_ne (by omega), gI_ne (by omega), gI_ne (by omega), gI_ne (by omega), gI_ne (by omega), gI_ne (by omega), gI_at]
  have dA : gI (xTown q MX) (128 * (q + 12) + 1) = 0 := by unfold xTown; rw [gI_ne (by omega), gI_ne (by omega), gI_ne (by omega), gI_ne (by omega), gI_ne (by omega), gI_at]
  have dB : gI (xTown q MX) (128 * (q + 14) + 1) = 0 := by unfold xTown; rw [gI_ne (by omega), gI_ne (by omega), gI_ne (by omega), gI_ne (by omega), gI_at]
  have dE : gI (xTown q MX) 391 = 0 := by unfold xTown; rw [gI_ne (by omega), gI_ne (by omega), gI_ne (by omega), gI_at]
  have dF : gI (xTown q MX) 392 = -1 := by unfold xTown; rw [gI_ne (by omega), gI_ne (by omega), gI_at]
  have dR : gR (xTown q MX) 130 = q := by unfold xTown; show gR (sR MX 130 q) 130 = q; rw [gR_sR, if_pos rfl]
  have hT2 : TownR q b 0 0 0 0 0 MX1 N3 := by
    refine ⟨⟨⟨(hx2 _ (by omega)).trans d1, (yA 2 b (by decide)).trans c2, by decide, fun i h => by omega⟩, ⟨(hx2 _ (by omega)).trans d5, (yA 5 b (by decide)).trans c5, by decide, fun i h => by omega⟩, ⟨(hx2 _ (by omega)).trans d12, (yA 10 b (by decide)).trans c10, by decide, fun i h => by omega⟩⟩, fun i h => by omega, fun i h => by omega, fun i h => by omega, ⟨(hx2 _ (by omega)).trans d8, (yA 7 b (by decide)).trans c7, by decide, fun k h => by omega, fun a c ha hc => Or.inl ⟨?_, fun k h => by omega⟩⟩, ⟨0, by decide, (hx2 _ (by omega)).trans d16, (yA 13 b (by decide)).trans c13⟩, Or.inl ⟨(hx2 _ (by omega)).trans dA, (yA 14 (2 * b) (by decide)).trans c14⟩, Or.inl ⟨(hx2 _ (by omega)).trans dB, (yA 14 (2 * b + 1) (by decide)).trans c15⟩, by decide⟩
    exact (hyA 8 _).trans (z1 _ (by omega) (by omega))
  have hL1 : Lex0 L MX1 N3 := ⟨(hx2 641 (by decide)).trans hL0.1, (hy2 2 (by omega)).trans hL0.2.1, h16, by rw [g4.2.1 1 id, g3.A]; exact a1, by rw [g3.A]; exact hL0.2.2.2.2.1, by rw [g3.A]; exact hL0.2.2.2.2.2⟩
  have hRd : Rd L s q b 0 0 0 0 0 MX1 N3 := ⟨⟨hL1, hTok, (hx2 391 (by decide)).trans dE, (hx2 392 (by decide)).trans dF, ((hy2 8 (by omega)).trans (gN 8 (by decide))).trans y8, ((hy2 9 (by omega)).trans (gN 9 (by decide))).trans y9⟩, ⟨by rw [g3.R]; exact dR, hq, ((hy2 34 (by omega)).trans (gN 34 (by decide))).trans y34, hb⟩, hT2, (hy2 33 (by omega)).trans gI_at, by omega⟩
  have fx1 : ∀ M', FX3 q MX1 M' → FX4 q MX M' := fun M' h => by
    have h2 := (FI.q (q := q) (g3.wk (by decide) (by decide))).t.tr h
    exact ⟨fun k g => (h2.1 k g).trans (fX.1 k g), fun a g => (h2.2.1 a g).trans (fX.2.1 a g), fun k g g2 => (h2.2.2 k g).trans (fX.2.2 k g g2)⟩
  have fy1 : ∀ M', FY2 b N3 M' → FY4 b MY M' := fun M' h => fY.tr ((f2.tr (g4.Y.b.tr h)).f)
  have y1 : gI (yTown b MY) 1 = 0 := by unfold yTown; simp only [gI_sA, gI_sI]; rfl
  have z1' : ∀ M', FY2 b N3 M' → gI M' 1 = 0 := fun M' h => (h.1 1 (by unfold regI; omega)).trans ((hy2 1 (by omega)).trans ((gN 1 (by decide)).trans y1))
  have ex0 : fX4_read n0 q MX = loopN (bX4_read_21 n0 q) (fun _ _ => none) n0 (nI 0) MX1 := xread e3
  have ey0 : fX12_town n0 MY = loopN (bX12_town_167 n0) (fun _ _ => none) n0 (nI 0) N3 := by
    rw [ytown hb h13]
    refine Eq.trans e1 ?_
    unfold yCont
    exact eq_n (eq_b e4 rfl)
  rcases rdL (q1 := q) hn n0 0 s 0 0 0 0 0 MX1 N3 hRd ((hx2 _ (by omega)).trans d0) (by omega) (fun h => by omega) (by omega) with ⟨MX', MY', s', nt, nc, nd, nr, C, j, k1, k2, k3, _, k4, k5, k6, k7⟩ | ⟨MX', MY', j, k1, k2, k3, k4, k5⟩
  · exact Or.inl ⟨MX', MY', s', nt, nc, nd, nr, C, j, ex0.trans k1, ey0.trans k2, k3, k4, k5, fx1 _ k6, fy1 _ k7, z1' _ k7⟩
  · exact Or.inr ⟨MX', MY', j, ex0.trans k1, ey0.trans k2, k3, fx1 _ k4, fy1 _ k5, z1' _ k5⟩
end
section
/-! MEASURES: the reference measures the told town's roads; it comes to an end and touches its own cells alone -/
theorem OnlyA.r {P : Nat → Nat → Prop} {M : Mem} : OnlyA P M M := ⟨rfl, rfl, rfl, rfl, fun _ _ _ => rfl⟩
theorem OnlyA.tr {P : Nat → Nat → Prop} {M M' M2 : Mem} (h : OnlyA P M M') (g : OnlyA P M' M2) : OnlyA P M M2 := ⟨g.1.trans h.1, g.2.1.trans h.2.1, g.2.2.1.trans h.2.2.1, g.2.2.2.1.trans h.2.2.2.1, fun a i q => (g.2.2.2.2 a i q).trans (h.2.2.2.2 a i q)⟩
theorem OnlyA.s {P : Nat → Nat → Prop} {M M' : Mem} {a i : Nat} {v : Int32} (h : OnlyA P M M') (hk : P a i) : OnlyA P M (sA M' a i v) := ⟨h.1, h.2.1, h.2.2.1, h.2.2.2.1, fun c j q => by
  rw [gA_sA]
  by_cases e : c = a
  · subst e
    rw [if_pos rfl, if_neg (fun e => q (by rw [e]; exact hk))]
    exact h.2.2.2.2 _ _ q
  · rw [if_neg e]
    exact h.2.2.2.2 _ _ q⟩
def P9 (b : Nat) : Nat → Nat → Prop := fun e i => e = 9 ∧ 25 * b ≤ i ∧ i < 25 * b + 25
theorem m76 {n0 i : Nat} {k2 : Int32 → Mem → Option Mem} {k9 : Int32 → Int32 → Mem → Option Mem} {x1 x2 v : Int32} {M : Mem} (hi : i < 50) : fX12_measures_76 n0 k2 k9 x1 x2 (nI i) v M = k9 x1 (x2 + 1) (sA M 9 i v) := by
  unfold fX12_measures_76
  refine eq_f (nI_in hi (by decide)) (eq_n ?_)
  rw [nI_clamp (by omega)]
theorem m9 {n0 b a : Nat} {k2 : Int32 → Mem → Option Mem} (hb : b ≤ 1) (ha : a < 5) : ∀ (w c : Nat) (M : Mem), c ≤ 5 → 5 < w + c → gI M 34 = nI b → ∃ M', loopN (bX12_measures_9 n0 k2) (fun _ _ _ => none) w (nI a) (nI c) M = k2 (nI (a + 1)) M' ∧ OnlyA (P9 b) M M' := by
  intro w
  induction w with
  | zero => intro c M _ h; omega
  | succ w ih =>
    intro c M hc hw h34
    rw [lpS, bX12_measures_9]
    by_cases g : 5 ≤ c
    · exact ⟨M, eq_t (nI_le (a := 5) g (by omega)) (by rw [nI_1]), OnlyA.r⟩
    · have ea : fX12_at n0 (gI M 34) (nI a) (nI c) M = some (nI (25 * b + (5 * a + c)), M) := by rw [h34]; exact yat
      have key : ∀ v, ∃ M', loopN (bX12_measures_9 n0 k2) (fun _ _ _ => none) w (nI a) (nI c + 1) (sA M 9 (25 * b + (5 * a + c)) v) = k2 (nI (a + 1)) M' ∧ OnlyA (P9 b) M M' := fun v => by
        obtain ⟨M', e1, e2⟩ := ih (c + 1) (sA M 9 (25 * b + (5 * a + c)) v) (by omega) (by omega) h34
        exact ⟨M', by rw [nI_1]; exact e1, (OnlyA.r.s (by unfold P9; omega)).tr e2⟩
      have o : ¬ oob (nI (25 * b + (5 * a + c))) 50 := nI_in (by omega) (by decide)
      by_cases g1 : nI a = nI c
      · obtain ⟨M', e1, e2⟩ := key 0
        exact ⟨M', eq_f (nI_ge (b := 5) (by omega) (by decide)) (eq_b ea (eq_t g1 ((m76 (by omega)).trans e1))), e2⟩
      · by_cases g2 : gA M 8 (Int32.toNatClampNeg (nI (25 * b + (5 * a + c)))) ≤ 0
        · obtain ⟨M', e1, e2⟩ := key 100000000
          exact ⟨M', eq_f (nI_ge (b := 5) (by omega) (by decide)) (eq_b ea (eq_f g1 (eq_b ea (eq_f o (eq_t g2 ((m76 (by omega)).trans e1)))))), e2⟩
        · obtain ⟨M', e1, e2⟩ := key (gA M 8 (Int32.toNatClampNeg (nI (25 * b + (5 * a + c)))))
          exact ⟨M', eq_f (nI_ge (b := 5) (by omega) (by decide)) (eq_b ea (eq_f g1 (eq_b ea (eq_f o (eq_f g2 (eq_b ea (eq_f o ((m76 (by omega)).trans e1)))))))), e2⟩
theorem m105 {n0 b a i : Nat} {k91 : Int32 → Mem → Option Mem} {k98 : Int32 → Int32 → Mem → Option Mem} (hb : b ≤ 1) (ha : a < 5) (hi : i < 5) : ∀ (w c : Nat) (M : Mem), c ≤ 5 → 5 < w + c → gI M 34 = nI b → ∃ M', loopN (bX12_measures_105 n0 k91 k98) (fun _ _ _ _ => none) w (nI a) (nI i) (nI c) M = k98 (nI a) (nI (i + 1)) M' ∧ OnlyA (P9 b) M M' := by
  intro w
  induction w with
  | zero => intro c M _ h; omega
  | succ w ih =>
    intro c M hc hw h34
    rw [lpS, bX12_measures_105]
    by_cases g : 5 ≤ c
    · exact ⟨M, eq_t (nI_le (a := 5) g (by omega)) (by rw [nI_1]), OnlyA.r⟩
    · have ea : fX12_at n0 (gI M 34) (nI i) (nI a) M = some (nI (25 * b + (5 * i + a)), M) := by rw [h34]; exact yat
      have eb : fX12_at n0 (gI M 34) (nI a) (nI c) M = some (nI (25 * b + (5 * a + c)), M) := by rw [h34]; exact yat
      have ec : fX12_at n0 (gI M 34) (nI i) (nI c) M = some (nI (25 * b + (5 * i + c)), M) := by rw [h34]; exact yat
      have oa : ¬ oob (nI (25 * b + (5 * i + a))) 50 := nI_in (by omega) (by decide)
      have ob : ¬ oob (nI (25 * b + (5 * a + c))) 50 := nI_in (by omega) (by decide)
      have oc : ¬ oob (nI (25 * b + (5 * i + c))) 50 := nI_in (by omega) (by decide)
      have hcl : (nI (25 * b + (5 * i + c))).toNatClampNeg = 25 * b + (5 * i + c) := nI_clamp (by omega)
      by_cases g2 : gA M 9 (Int32.toNatClampNeg (nI (25 * b + (5 * i + c)))) ≤ gA M 9 (Int32.toNatClampNeg (nI (25 * b + (5 * i + a)))) + gA M 9 (Int32.toNatClampNeg (nI (25 * b + (5 * a + c))))
      · obtain ⟨M', e1, e2⟩ := ih (c + 1) M (by omega) (by omega) h34
        refine ⟨M', eq_f (nI_ge (b := 5) (by omega) (by decide)) (eq_b ea (eq_f oa (eq_b eb (eq_f ob (eq_n (eq_b ec (eq_f oc (eq_t g2 ?_)))))))), e2⟩
        unfold fX12_measures_180
        rw [nI_1]
        exact e1
      · obtain ⟨M', e1, e2⟩ := ih (c + 1) (sA M 9 (25 * b + (5 * i + c)) (gA M 9 (Int32.toNatClampNeg (nI (25 * b + (5 * i + a)))) + gA M 9 (Int32.toNatClampNeg (nI (25 * b + (5 * a + c)))))) (by omega) (by omega) h34
        refine ⟨M', eq_f (nI_ge (b := 5) (by omega) (by decide)) (eq_b ea (eq_f oa (eq_b eb (eq_f ob (eq_n (eq_b ec (eq_f oc (eq_f g2 (eq_b ec (eq_f oc ?_)))))))))), (OnlyA.r.s (by unfold P9; omega)).tr e2⟩
        unfold fX12_measures_180
        rw [nI_1]
        simp only [hcl]
        exact e1
theorem m98 {n0 b a : Nat} {k91 : Int32 → Mem → Option Mem} (hn : 1700 ≤ n0) (hb : b ≤ 1) (ha : a < 5) : ∀ (w c : Nat) (M : Mem), c ≤ 5 → 5 < w + c → gI M 34 = nI b → ∃ M', loopN (bX12_measures_98 n0 k91) (fun _ _ _ => none) w (nI a) (nI c) M = k91 (nI (a + 1)) M' ∧ OnlyA (P9 b) M M' := by
  intro w
  induction w with
  | zero => intro c M _ h; omega
  | succ w ih =>
    intro c M hc hw h34
    rw [lpS, bX12_measures_98]
    by_cases g : 5 ≤ c
    · exact ⟨M, eq_t (nI_le (a := 5) g (by omega)) (by rw [nI_1]), OnlyA.r⟩
    · obtain ⟨M1, d1, d2⟩ := m105 (n0 := n0) (k91 := k91) (k98 := loopN (bX12_measures_98 n0 k91) (fun _ _ _ => none) w) hb ha (show c < 5 by omega) n0 0 M (by omega) (by omega) h34
      obtain ⟨M', e1, e2⟩ := ih (c + 1) M1 (by omega) (by omega) (by rw [d2.1]; exact h34)
      exact ⟨M', eq_f (nI_ge (b := 5) (by omega) (by decide)) (d1.trans e1), d2.tr e2⟩
theorem m91 {n0 b : Nat} (hn : 1700 ≤ n0) (hb : b ≤ 1) : ∀ (w c : Nat) (M : Mem), c ≤ 5 → 5 < w + c → gI M 34 = nI b → ∃ M', loopN (bX12_measures_91 n0) (fun _ _ => none) w (nI c) M = some M' ∧ OnlyA (P9 b) M M' := by
  intro w
  induction w with
  | zero => intro c M _ h; omega
  | succ w ih =>
    intro c M hc hw h34
    rw [lpS, bX12_measures_91]
    by_cases g : 5 ≤ c
    · exact ⟨M, eq_t (nI_le (a := 5) g (by omega)) rfl, OnlyA.r⟩
    · obtain ⟨M1, d1, d2⟩ := m98 (n0 := n0) (k91 := loopN (bX12_measures_91 n0) (fun _ _ => none) w) hn hb (show c < 5 by omega) n0 0 M (by omega) (by omega) h34
      obtain ⟨M', e1, e2⟩ := ih (c + 1) M1 (by omega) (by omega) (by rw [d2.1]; exact h34)
      exact ⟨M', eq_f (nI_ge (b := 5) (by omega) (by decide)) (d1.trans e1), d2.tr e2⟩
theorem m2 {n0 b : Nat} (hn : 1700 ≤ n0) (hb : b ≤ 1) : ∀ (w c : Nat) (M : Mem), c ≤ 5 → 5 < w + c → gI M 34 = nI b → ∃ M', loopN (bX12_measures_2 n0) (fun _ _ => none) w (nI c) M = some M' ∧ OnlyA (P9 b) M M' := by
  intro w
  induction w with
  | zero => intro c M _ h; omega
  | succ w ih =>
    intro c M hc hw h34
    rw [lpS, bX12_measures_2]
    by_cases g : 5 ≤ c
    · obtain ⟨M', e1, e2⟩ := m91 (n0 := n0) hn hb n0 0 M (by omega) (by omega) h34
      exact ⟨M', eq_t (nI_le (a := 5) g (by omega)) e1, e2⟩
    · obtain ⟨M1, d1, d2⟩ := m9 (n0 := n0) (k2 := loopN (bX12_measures_2 n0) (fun _ _ => none) w) hb (show c < 5 by omega) n0 0 M (by omega) (by omega) h34
      obtain ⟨M', e1, e2⟩ := ih (c + 1) M1 (by omega) (by omega) (by rw [d2.1]; exact h34)
      exact ⟨M', eq_f (nI_ge (b := 5) (by omega) (by decide)) (d1.trans e1), d2.tr e2⟩
theorem measures {n0 b : Nat} {M : Mem} (hn : 1700 ≤ n0) (hb : b ≤ 1) (h34 : gI M 34 = nI b) : ∃ M', fX12_measures n0 M = some M' ∧ OnlyA (P9 b) M M' := m2 hn hb n0 0 M (by omega) (by omega) h34
end
section
/-! SUMS ON BOTH SIDES: ints against longs, within a million -/
def zI (z : Int) : Int32 := Int32.ofInt z
def zL (z : Int) : Int64 := Int64.ofInt z
theorem zI_toInt {z : Int} (h1 : -2147483648 ≤ z) (h2 : z ≤ 2147483647) : (zI z).toInt = z := Int32.toInt_ofInt_of_le (by omega) (by omega)
theorem zL_toInt {z : Int} (h1 : -9223372036854775808 ≤ z) (h2 : z ≤ 9223372036854775807) : (zL z).toInt = z := Int64.toInt_ofInt_of_le (by omega) (by omega)
theorem zI_of (x : Int32) : zI x.toInt = x := Int32.ofInt_toInt x
theorem zL_of (x : Int64) : zL x.toInt = x := Int64.ofInt_toInt x
theorem zL_lt {a b : Int} (a1 : -9223372036854775808 ≤ a) (a2 : a ≤ 9223372036854775807) (b1 : -9223372036854775808 ≤ b) (b2 : b ≤ 9223372036854775807) : zL a < zL b ↔ a < b := by rw [Int64.lt_iff_toInt_lt, zL_toInt a1 a2, zL_toInt b1 b2]
theorem zL_eq {a b : Int} (a1 : -9223372036854775808 ≤ a) (a2 : a ≤ 9223372036854775807) (b1 : -9223372036854775808 ≤ b) (b2 : b ≤ 9223372036854775807) : zL a = zL b ↔ a = b := by rw [← Int64.toInt_inj, zL_toInt a1 a2, zL_toInt b1 b2]
theorem zI_lt {a b : Int} (a1 : -2147483648 ≤ a) (a2 : a ≤ 2147483647) (b1 : -2147483648 ≤ b) (b2 : b ≤ 2147483647) : zI a < zI b ↔ a < b := by rw [Int32.lt_iff_toInt_lt, zI_toInt a1 a2, zI_toInt b1 b2]
theorem zI_le {a b : Int} (a1 : -2147483648 ≤ a) (a2 : a ≤ 2147483647) (b1 : -2147483648 ≤ b) (b2 : b ≤ 2147483647) : zI a ≤ zI b ↔ a ≤ b := by rw [Int32.le_iff_toInt_le, zI_toInt a1 a2, zI_toInt b1 b2]
theorem zI_eq {a b : Int} (a1 : -2147483648 ≤ a) (a2 : a ≤ 2147483647) (b1 : -2147483648 ≤ b) (b2 : b ≤ 2147483647) : zI a = zI b ↔ a = b := by rw [← Int32.toInt_inj, zI_toInt a1 a2, zI_toInt b1 b2]
theorem zI_long {a : Int} (a1 : -2147483648 ≤ a) (a2 : a ≤ 2147483647) : (zI a).toInt64 = zL a := by rw [← Int64.toInt_inj, Int32.toInt_toInt64, zI_toInt a1 a2, zL_toInt (by omega) (by omega)]
theorem zL_int {a : Int} (a1 : -2147483648 ≤ a) (a2 : a ≤ 2147483647) : (zL a).toInt32 = zI a := by rw [← zI_long a1 a2, Int32.toInt32_toInt64]
theorem zL_add (a b : Int) : zL a + zL b = zL (a + b) := (Int64.ofInt_add a b).symm
theorem zL_sub (a b : Int) : zL a - zL b = zL (a - b) := (Int64.ofInt_sub a b).symm
theorem zL_mul (a b : Int) : zL a * zL b = zL (a * b) := (Int64.ofInt_mul a b).symm
theorem zI_add (a b : Int) : zI a + zI b = zI (a + b) := (Int32.ofInt_add a b).symm
theorem zI_sub (a b : Int) : zI a - zI b = zI (a - b) := (Int32.ofInt_sub a b).symm
theorem zI_mul (a b : Int) : zI a * zI b = zI (a * b) := (Int32.ofInt_mul a b).symm
def lR (a : Int) : Prop := -9000000000000 ≤ a ∧ a ≤ 9000000000000
theorem lgc {a b : Int} (ha : lR a) (hb : lR b) : lg_cmp (zL a) (zL b) = if b < a then 1 else if a = b then 0 else -1 := by
  unfold lR at ha hb
  have h1 := zL_lt (a := b) (b := a) (by omega) (by omega) (by omega) (by omega)
  have h2 := zL_eq (a := a) (b := b) (by omega) (by omega) (by omega) (by omega)
  unfold lg_cmp
  by_cases g : b < a
  · rw [if_pos (h1.mpr g), if_pos g]
  · rw [if_neg (fun z => g (h1.mp z)), if_neg g]
    by_cases g2 : a = b
    · rw [if_pos (h2.mpr g2), if_pos g2]
    · rw [if_neg (fun z => g2 (h2.mp z)), if_neg g2]
theorem lgc_le {a b : Int} (ha : lR a) (hb : lR b) : lg_cmp (zL a) (zL b) ≤ 0 ↔ a ≤ b := by
  rw [lgc ha hb]
  by_cases g : b < a
  · rw [if_pos g]; exact ⟨fun z => absurd z (by decide), fun z => by omega⟩
  · rw [if_neg g]
    by_cases g2 : a = b
    · rw [if_pos g2]; exact ⟨fun _ => by omega, fun _ => by decide⟩
    · rw [if_neg g2]; exact ⟨fun _ => by omega, fun _ => by decide⟩
theorem lgc_ge {a b : Int} (ha : lR a) (hb : lR b) : 0 ≤ lg_cmp (zL a) (zL b) ↔ b ≤ a := by
  rw [lgc ha hb]
  by_cases g : b < a
  · rw [if_pos g]; exact ⟨fun _ => by omega, fun _ => by decide⟩
  · rw [if_neg g]
    by_cases g2 : a = b
    · rw [if_pos g2]; exact ⟨fun _ => by omega, fun _ => by decide⟩
    · rw [if_neg g2]; exact ⟨fun z => absurd z (by decide), fun z => by omega⟩
theorem lgc_eq {a b : Int} (ha : lR a) (hb : lR b) : lg_cmp (zL a) (zL b) = 0 ↔ a = b := by
  rw [lgc ha hb]
  by_cases g : b < a
  · rw [if_pos g]; exact ⟨fun z => absurd z (by decide), fun z => by omega⟩
  · rw [if_neg g]
    by_cases g2 : a = b
    · rw [if_pos g2]; exact ⟨fun _ => by omega, fun _ => rfl⟩
    · rw [if_neg g2]; exact ⟨fun z => absurd z (by decide), fun z => absurd z g2⟩
/-- within a million -/
def clip (a : Int) : Int := if a ≤ 1000000 then (if -1000000 ≤ a then a else -1000000) else 1000000
def mR (a : Int) : Prop := -1000000 ≤ a ∧ a ≤ 1000000
theorem clip_m (a : Int) : mR (clip a) := by
  unfold clip mR
  by_cases g : a ≤ 1000000
  · rw [if_pos g]
    by_cases g2 : -1000000 ≤ a
    · rw [if_pos g2]; exact ⟨g2, g⟩
    · rw [if_neg g2]; decide
  · rw [if_neg g]; decide
theorem clip_id {a : Int} (h : mR a) : clip a = a := by
  unfold clip
  rw [if_pos h.2, if_pos h.1]
theorem L6 : (1000000 : Int64) = zL 1000000 := by decide
theorem L6n : (-1000000 : Int64) = zL (-1000000) := by decide
theorem zl0 : (0 : Int64) = zL 0 := by decide
theorem zl1 : (1 : Int64) = zL 1 := by decide
theorem ywithin {n0 : Nat} {a : Int} {M : Mem} (ha : lR a) : fX12_within n0 (zL a) M = some (zL (clip a), M) := by
  have r1 : lR 1000000 := by unfold lR; omega
  have r2 : lR (-1000000) := by unfold lR; omega
  have c1 := lgc_le ha r1
  have c2 := lgc_ge ha r2
  unfold fX12_within clip
  rw [L6n, L6]
  by_cases g : a ≤ 1000000
  · rw [if_pos (c1.mpr g), if_pos g]
    by_cases g2 : -1000000 ≤ a
    · rw [if_pos (c2.mpr g2), if_pos g2]
    · rw [if_neg (fun z => g2 (c2.mp z)), if_neg g2]
  · rw [if_neg (fun z => g (c1.mp z)), if_neg g]
theorem xwithin {a : Int} (ha : lR a) : (lmax (-1000000) (lmin 1000000 (zL a))).toInt32 = zI (clip a) := by
  unfold lR at ha
  have c1 : zL a < zL 1000000 ↔ a < 1000000 := zL_lt (by omega) (by omega) (by omega) (by omega)
  have c2 : zL a < zL (-1000000) ↔ a < -1000000 := zL_lt (by omega) (by omega) (by omega) (by omega)
  have c3 : ¬ zL 1000000 < zL (-1000000) := by rw [zL_lt (by omega) (by omega) (by omega) (by omega)]; omega
  have e : lmax (-1000000) (lmin 1000000 (zL a)) = zL (clip a) := by
    unfold lmax lmin clip
    rw [L6n, L6]
    by_cases g : a < 1000000
    · rw [if_pos (c1.mpr g), if_pos (show a ≤ 1000000 by omega)]
      by_cases g2 : a < -1000000
      · rw [if_pos (c2.mpr g2), if_neg (by omega)]
      · rw [if_neg (fun z => g2 (c2.mp z)), if_pos (by omega)]
    · rw [if_neg (fun z => g (c1.mp z)), if_neg c3]
      by_cases g2 : a = 1000000
      · rw [if_pos (by omega), if_pos (by omega), g2]
      · rw [if_neg (by omega)]
  have m := clip_m a
  unfold mR at m
  rw [e, zL_int (by omega) (by omega)]
theorem xnn {x : Int32} : 0 ≤ x ↔ x.toBitVec.msb = false := by
  rw [Int32.le_iff_toInt_le]
  show (0 : Int) ≤ x.toBitVec.toInt ↔ _
  rw [BitVec.msb_eq_toInt]
  simp
theorem xsign {x y : Int32} : 0 ≤ x ^^^ y ↔ (0 ≤ x ↔ 0 ≤ y) := by
  rw [xnn, xnn, xnn, Int32.toBitVec_xor, BitVec.msb_xor]
  cases x.toBitVec.msb <;> cases y.toBitVec.msb <;> decide
theorem zL_div {a b : Int} (ha : mR a) (hb : mR b) : zL a / zL b = zL (a.tdiv b) := by
  unfold mR at ha hb
  exact (Int64.ofInt_tdiv (by show (-9223372036854775808 : Int) ≤ a; omega) (by show a ≤ (9223372036854775807 : Int); omega) (by show (-9223372036854775808 : Int) ≤ b; omega) (by show b ≤ (9223372036854775807 : Int); omega)).symm
theorem zI_div {a b : Int} (ha : mR a) (hb : mR b) : zI a / zI b = zI (a.tdiv b) := by
  unfold mR at ha hb
  exact (Int32.ofInt_tdiv (by show (-2147483648 : Int) ≤ a; omega) (by show a ≤ (2147483647 : Int); omega) (by show (-2147483648 : Int) ≤ b; omega) (by show b ≤ (2147483647 : Int); omega)).symm
theorem tdiv_m {a b : Int} (ha : mR a) : mR (a.tdiv b) := by
  have h := Int.natAbs_tdiv_le_natAbs a b
  unfold mR at ha ⊢
  omega
end
