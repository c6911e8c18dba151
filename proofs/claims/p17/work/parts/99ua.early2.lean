/-! EARLY ON BOTH SIDES: the same sets of corners, minute by minute -/
theorem cl0 : Int32.toNatClampNeg (0 : Int32) = 0 := by decide
theorem hasB : ∀ e, e < 32 → ∀ i, i < 5 → ((((nI e >>> (nI i &&& 31)) &&& (1 : Int32)) = (1 : Int32)) ↔ e.testBit i = true) := by decide +kernel
theorem acrB : ∀ e, e < 32 → ∀ a, a < 5 → ∀ c, c < 5 → (((nI e >>> (nI a &&& 31)) &&& (1 : Int32)) <<< (nI c &&& 31)) = nI (if e.testBit a then 2 ^ c else 0) := by decide +kernel
def RcE (S : Nat → Nat → Nat) (c n : Nat) (e : Nat → Nat) : Prop := e 0 = 2 ^ c ∧ (∀ i, i < n → e i < 32) ∧ ∀ i, 1 ≤ i → i < n → ∀ j, j < 5 → ((e i).testBit j = true ↔ ∃ a, a < 5 ∧ 0 < S a j ∧ S a j ≤ i ∧ (e (i - S a j)).testBit a = true)
def exE (e : Nat → Nat) (n x : Nat) : Nat → Nat := fun i => if i = n then x else e i
theorem exE_n {e : Nat → Nat} {n x : Nat} : exE e n x n = x := if_pos rfl
theorem exE_ne {e : Nat → Nat} {n x i : Nat} (h : ¬ i = n) : exE e n x i = e i := if_neg h
theorem RcE.step {S : Nat → Nat → Nat} {c n x : Nat} {e : Nat → Nat} (h : RcE S c n e) (h1 : 1 ≤ n) (hx : x < 32) (hb : ∀ j, j < 5 → (x.testBit j = true ↔ ∃ a, a < 5 ∧ 0 < S a j ∧ S a j ≤ n ∧ (e (n - S a j)).testBit a = true)) : RcE S c (n + 1) (exE e n x) := by
  refine ⟨by rw [exE_ne (by omega)]; exact h.1, fun i hi => ?_, fun i i1 i2 j hj => ?_⟩
  · by_cases z : i = n
    · rw [z, exE_n]; exact hx
    · rw [exE_ne z]; exact h.2.1 i (by omega)
  · by_cases z : i = n
    · rw [z, exE_n, hb j hj]
      exact ⟨fun ⟨a, a1, a2, a3, a4⟩ => ⟨a, a1, a2, a3, by rw [exE_ne (by omega)]; exact a4⟩, fun ⟨a, a1, a2, a3, a4⟩ => ⟨a, a1, a2, a3, by rw [exE_ne (by omega)] at a4; exact a4⟩⟩
    · rw [exE_ne z, h.2.2 i i1 (by omega) j hj]
      exact ⟨fun ⟨a, a1, a2, a3, a4⟩ => ⟨a, a1, a2, a3, by rw [exE_ne (by omega)]; exact a4⟩, fun ⟨a, a1, a2, a3, a4⟩ => ⟨a, a1, a2, a3, by rw [exE_ne (by omega)] at a4; exact a4⟩⟩
theorem RcE.uq {S : Nat → Nat → Nat} {c n : Nat} {e e' : Nat → Nat} (h : RcE S c n e) (h' : RcE S c n e') : ∀ i, i < n → e i = e' i := by
  intro i
  induction i using Nat.strongRecOn with
  | ind i ih =>
    intro hi
    by_cases z : i = 0
    · rw [z, h.1, h'.1]
    · apply Nat.eq_of_testBit_eq
      intro j
      by_cases hj : j < 5
      · have k1 := h.2.2 i (by omega) hi j hj
        have k2 := h'.2.2 i (by omega) hi j hj
        have k3 : ((e i).testBit j = true ↔ (e' i).testBit j = true) := by
          rw [k1, k2]
          exact ⟨fun ⟨a, a1, a2, a3, a4⟩ => ⟨a, a1, a2, a3, by rw [← ih (i - S a j) (by omega) (by omega)]; exact a4⟩, fun ⟨a, a1, a2, a3, a4⟩ => ⟨a, a1, a2, a3, by rw [ih (i - S a j) (by omega) (by omega)]; exact a4⟩⟩
        exact Bool.eq_iff_iff.mpr k3
      · have p5 : 32 ≤ 2 ^ j := Nat.le_trans (show 32 ≤ 2 ^ 5 by decide) (Nat.pow_le_pow_right (by decide) (by omega))
        rw [Nat.testBit_lt_two_pow (Nat.lt_of_lt_of_le (h.2.1 i hi) p5), Nat.testBit_lt_two_pow (Nat.lt_of_lt_of_le (h'.2.1 i hi) p5)]
theorem bitP (b : Bool) (i : Nat) (hi : i < 5) : (if b then 2 ^ i else 0) < 32 := by
  cases b
  · show 0 < 32
    decide
  · show 2 ^ i < 2 ^ 5
    exact Nat.pow_lt_pow_right (by decide) hi
theorem bitT (b : Bool) (i j : Nat) : ((if b then 2 ^ i else 0).testBit j = true ↔ (b = true ∧ i = j)) := by
  cases b
  · show (Nat.testBit 0 j = true ↔ _)
    rw [Nat.zero_testBit]
    exact ⟨fun z => absurd z (by decide), fun z => absurd z.1 (by decide)⟩
  · show ((2 ^ i).testBit j = true ↔ _)
    rw [Nat.testBit_two_pow, decide_eq_true_iff]
    exact ⟨fun z => ⟨rfl, z⟩, fun z => z.2⟩
/-- roads of the class, one after the other, at minute k -/
def RdE (A B V e : Nat → Nat) (k r x : Nat) : Prop := x < 32 ∧ ∀ j, j < 5 → (x.testBit j = true ↔ ∃ r', r' < r ∧ V r' ≤ k ∧ ((B r' = j ∧ (e (k - V r')).testBit (A r') = true) ∨ (A r' = j ∧ (e (k - V r')).testBit (B r') = true)))
theorem RdE.z {A B V e : Nat → Nat} {k : Nat} : RdE A B V e k 0 0 := ⟨by decide, fun j _ => ⟨fun z => by rw [Nat.zero_testBit] at z; exact absurd z (by decide), fun ⟨r', h, _⟩ => by omega⟩⟩
theorem RdE.skip {A B V e : Nat → Nat} {k r x : Nat} (h : RdE A B V e k r x) (hv : ¬ V r ≤ k) : RdE A B V e k (r + 1) x := ⟨h.1, fun j hj => (h.2 j hj).trans ⟨fun ⟨r', h1, h2⟩ => ⟨r', by omega, h2⟩, fun ⟨r', h1, h2, h3⟩ => ⟨r', by
  by_cases g : r' = r
  · rw [g] at h2
    exact absurd h2 hv
  · omega, h2, h3⟩⟩⟩
theorem RdE.add {A B V e : Nat → Nat} {k r x : Nat} (h : RdE A B V e k r x) (hv : V r ≤ k) (ha : A r < 5) (hb : B r < 5) : RdE A B V e k (r + 1) (x ||| ((if (e (k - V r)).testBit (A r) then 2 ^ B r else 0) ||| (if (e (k - V r)).testBit (B r) then 2 ^ A r else 0))) := by
  refine ⟨Nat.or_lt_two_pow (n := 5) h.1 (Nat.or_lt_two_pow (n := 5) (bitP _ _ hb) (bitP _ _ ha)), fun j hj => ?_⟩
  rw [Nat.testBit_or, Nat.testBit_or, Bool.or_eq_true, Bool.or_eq_true, h.2 j hj, bitT, bitT]
  constructor
  · intro z
    rcases z with ⟨r', h1, h2, h3⟩ | ⟨g1, g2⟩ | ⟨g1, g2⟩
    · exact ⟨r', by omega, h2, h3⟩
    · exact ⟨r, by omega, hv, Or.inl ⟨g2, g1⟩⟩
    · exact ⟨r, by omega, hv, Or.inr ⟨g2, g1⟩⟩
  · intro ⟨r', h1, h2, h3⟩
    by_cases g : r' = r
    · rw [g] at h3
      rcases h3 with ⟨g1, g2⟩ | ⟨g1, g2⟩
      · exact Or.inr (Or.inl ⟨g2, g1⟩)
      · exact Or.inr (Or.inr ⟨g2, g1⟩)
    · exact Or.inl ⟨r', by omega, h2, h3⟩
theorem RdE.rc {A B V e : Nat → Nat} {S : Nat → Nat → Nat} {k nc nr x : Nat} (h : RdE A B V e k nr x) (hR : RdS nc nr A B V S) (h5 : nc ≤ 5) : ∀ j, j < 5 → (x.testBit j = true ↔ ∃ a, a < 5 ∧ 0 < S a j ∧ S a j ≤ k ∧ (e (k - S a j)).testBit a = true) := fun j hj => by
  rw [h.2 j hj]
  constructor
  · intro ⟨r, r1, r2, r3⟩
    obtain ⟨s1, s2, s3, s4, s5, s6⟩ := hR.1 r r1
    rcases r3 with ⟨g1, g2⟩ | ⟨g1, g2⟩
    · refine ⟨A r, by omega, ?_⟩
      rw [← g1, s5]
      exact ⟨by omega, r2, g2⟩
    · refine ⟨B r, by omega, ?_⟩
      rw [← g1, s6]
      exact ⟨by omega, r2, g2⟩
  · intro ⟨a, a1, a2, a3, a4⟩
    obtain ⟨r, r1, r2⟩ := hR.2 a j a1 hj a2
    obtain ⟨s1, s2, s3, s4, s5, s6⟩ := hR.1 r r1
    rcases r2 with ⟨g1, g2⟩ | ⟨g1, g2⟩
    · have ev : S a j = V r := by rw [← g1, ← g2]; exact s5
      rw [ev] at a3 a4
      exact ⟨r, r1, a3, Or.inl ⟨g2, by rw [g1]; exact a4⟩⟩
    · have ev : S a j = V r := by rw [← g1, ← g2]; exact s6
      rw [ev] at a3 a4
      exact ⟨r, r1, a3, Or.inr ⟨g1, by rw [g2]; exact a4⟩⟩
theorem xoutV {n0 q nr c : Nat} {T : TP} {A B V : Nat → Nat} {S : Nat → Nat → Nat} {M : Mem} (hn : 1700 ≤ n0) (hT : XT n0 q T M) (hV : XRdV q nr A B V M) (hR : RdS T.nc nr A B V S) (hc : c < T.nc) : ∃ M' e, fX10_goOutFrom n0 q (nI c) M = some M' ∧ XF (fun a => a = 20) M M' ∧ RcE S c 61 e ∧ ∀ i, i < 61 → gA M' 20 i = nI (e i) := by
  obtain ⟨o1, o2, o3, _⟩ := hT.2.1
  have hq := hT.1.1
  have r10 := hV.2.1
  have tw : ∀ M', XF (fun a => a = 20) M M' → xTw q M M' := fun M' f => f.tw hq (fun a (z : a = 20) => by omega)
  have l27 : ∀ (k11 : Int32 → Mem → Option Mem) (k : Nat) (e : Nat → Nat), 1 ≤ k → k ≤ 60 → (∀ i, i < k → e i < 32) → ∀ w r s x, r ≤ nr → nr < w + r → XF (fun a => a = 20) M s → (∀ i, i < k → gA s 20 i = nI (e i)) → gA s 20 k = nI x → RdE A B V e k r x → ∃ s' x', loopN (bX10_goOutFrom_27 n0 q k11) (fun _ _ _ => none) w (nI k) (nI r) s = k11 (nI (k + 1)) s' ∧ XF (fun a => a = 20) M s' ∧ (∀ i, i < k → gA s' 20 i = nI (e i)) ∧ gA s' 20 k = nI x' ∧ RdE A B V e k nr x' := fun k11 k e hk1 hk he w => by
    induction w with
    | zero => intro r s x hr hw; omega
    | succ w ih =>
      intro r s x hr hw hf hE hx hD
      show ∃ s' x', bX10_goOutFrom_27 n0 q k11 (loopN (bX10_goOutFrom_27 n0 q k11) (fun _ _ _ => none) w) (nI k) (nI r) s = _ ∧ _
      have Rs := hV.tw (tw s hf)
      by_cases g : r = nr
      · refine ⟨s, x, ?_, hf, hE, hx, by rw [← g]; exact hD⟩
        unfold bX10_goOutFrom_27
        refine eq_t (by rw [Rs.1, g]; exact Int32.le_refl _) ?_
        rw [show nI k + 1 = nI (k + 1) from nI_add k 1]
      · have hr' : r < nr := by omega
        obtain ⟨a1, a2, a3, a4, a5, a6⟩ := hR.1 r hr'
        obtain ⟨b1, b2, b3⟩ := Rs.2.2 r hr'
        have cr : (nI r).toNatClampNeg = r := nI_clamp (by omega)
        have ck : (nI k).toNatClampNeg = k := nI_clamp (by omega)
        have or : ¬ oob (nI r) 10 := nI_in (by omega) (by decide)
        have r1 : nI r + 1 = nI (r + 1) := nI_add r 1
        have st : ¬ gI s (128 * q + 8) ≤ nI r := by rw [Rs.1]; exact nI_ge hr' (by omega)
        by_cases g2 : V r ≤ k
        · have ev : gA s 20 (nI (k - V r)).toNatClampNeg = nI (e (k - V r)) := by rw [nI_clamp (by omega)]; exact hE _ (by omega)
          have l32 := he (k - V r) (by omega)
          have ac : fX10_across n0 q (nI r) (gA s 20 (nI (k - V r)).toNatClampNeg) s = some (nI ((if (e (k - V r)).testBit (A r) then 2 ^ B r else 0) ||| (if (e (k - V r)).testBit (B r) then 2 ^ A r else 0)), s) := by
            rw [ev]
            unfold fX10_across
            refine eq_f or (eq_e (v' := nI (A r)) (by rw [cr, b1]) (eq_f or (eq_e (v' := nI (B r)) (by rw [cr, b2]) ?_)))
            rw [acrB _ l32 (A r) (by omega) (B r) (by omega), acrB _ l32 (B r) (by omega) (A r) (by omega), nOr]
          obtain ⟨s', x', i1, i2⟩ := ih (r + 1) (sA s 20 k (nI (x ||| ((if (e (k - V r)).testBit (A r) then 2 ^ B r else 0) ||| (if (e (k - V r)).testBit (B r) then 2 ^ A r else 0))))) _ (by omega) (by omega) (hf.a rfl) (fun i hi => by rw [gA_sA, if_pos rfl, if_neg (by omega)]; exact hE i hi) (by rw [gA_sA, if_pos rfl, if_pos rfl]) (hD.add g2 (by omega) (by omega))
          refine ⟨s', x', ?_, i2⟩
          unfold bX10_goOutFrom_27 fX10_goOutFrom_74
          refine eq_f st (eq_f or (eq_e (v' := nI (k - V r)) (by rw [cr, b3, nI_subN g2]) (eq_f (nI_nn (by omega)) (eq_f (nI_in (by omega) (by decide)) (eq_f (nI_in (by omega) (by decide)) (eq_b ac (eq_f (nI_in (by omega) (by decide)) ?_)))))))
          show loopN (bX10_goOutFrom_27 n0 q k11) (fun _ _ _ => none) w (nI k) (nI r + 1) (sA s 20 (Int32.toNatClampNeg (nI k)) (gA s 20 (Int32.toNatClampNeg (nI k)) ||| nI ((if (e (k - V r)).testBit (A r) then 2 ^ B r else 0) ||| (if (e (k - V r)).testBit (B r) then 2 ^ A r else 0)))) = _
          rw [r1, ck, hx, nOr]
          exact i1
        · obtain ⟨s', x', i1, i2⟩ := ih (r + 1) s x (by omega) (by omega) hf hE hx (hD.skip g2)
          refine ⟨s', x', ?_, i2⟩
          unfold bX10_goOutFrom_27 fX10_goOutFrom_74
          refine eq_f st (eq_f or (eq_n (eq_t ?_ ?_)))
          · rw [cr, b3, i_lt, nz, nz, zI_sub, zI_toInt (by omega) (by omega), show (0 : Int32).toInt = 0 from rfl]
            omega
          · rw [r1]
            exact i1
  have l11 : ∀ w k s e, k ≤ 61 → 1 ≤ k → 61 < w + k → XF (fun a => a = 20) M s → RcE S c k e → (∀ i, i < k → gA s 20 i = nI (e i)) → ∃ M' e', loopN (bX10_goOutFrom_11 n0 q) (fun _ _ => none) w (nI k) s = some M' ∧ XF (fun a => a = 20) M M' ∧ RcE S c 61 e' ∧ ∀ i, i < 61 → gA M' 20 i = nI (e' i) := fun w => by
    induction w with
    | zero => intro k s e hk hk1 hw; omega
    | succ w ih =>
      intro k s e hk hk1 hw hf hC hE
      show ∃ M' e', bX10_goOutFrom_11 n0 q (loopN (bX10_goOutFrom_11 n0 q) (fun _ _ => none) w) (nI k) s = _ ∧ _
      by_cases g : k = 61
      · subst g
        refine ⟨s, e, ?_, hf, hC, hE⟩
        unfold bX10_goOutFrom_11
        exact eq_t (by decide) rfl
      · have ck : (nI k).toNatClampNeg = k := nI_clamp (by omega)
        obtain ⟨s2, x, e2, f2, E2, x2, D2⟩ := l27 (loopN (bX10_goOutFrom_11 n0 q) (fun _ _ => none) w) k e hk1 (by omega) hC.2.1 n0 0 (sA s 20 k 0) 0 (by omega) (by omega) (hf.a rfl) (fun i hi => by rw [gA_sA, if_pos rfl, if_neg (by omega)]; exact hE i hi) (by rw [gA_sA, if_pos rfl, if_pos rfl]; rfl) RdE.z
        obtain ⟨M', e', i1, i2⟩ := ih (k + 1) s2 (exE e k x) (by omega) (by omega) (by omega) f2 (hC.step hk1 D2.1 (D2.rc hR o2)) (fun i hi => by
          by_cases z : i = k
          · rw [z, exE_n]; exact x2
          · rw [exE_ne z]; exact E2 i (by omega))
        refine ⟨M', e', ?_, i2⟩
        unfold bX10_goOutFrom_11
        exact eq_f (fun z => by have := (nI_ltI (a := 60) (by decide) (by omega)).mp z; omega) (eq_f (nI_in (by omega) (by decide)) (eq_e (v' := sA s 20 k 0) (by rw [ck]) (e2.trans i1)))
  have ob := one_bit c (by omega)
  obtain ⟨M', e', i1, i2⟩ := l11 n0 1 (sA M 20 0 (nI (2 ^ c))) (fun _ => 2 ^ c) (by omega) (by omega) (by omega) (XF.r.a rfl) ⟨rfl, fun i hi => ob.2.1, fun i i1 i2 => by omega⟩ (fun i hi => by rw [show i = 0 by omega, gA_sA, if_pos rfl, if_pos rfl])
  refine ⟨M', e', ?_, i2⟩
  unfold fX10_goOutFrom
  exact eq_f (by decide) (eq_e (v' := sA M 20 0 (nI (2 ^ c))) (by rw [ob.1, cl0]) i1)
/-- the first minute that will do -/
def eaF (p : Nat → Bool) : Nat → Nat → Int32
  | 0, _ => -1
  | n + 1, k => if p k = true then nI k else eaF p n (k + 1)
theorem eaF_t {p : Nat → Bool} {n k : Nat} (h : p k = true) : eaF p (n + 1) k = nI k := if_pos h
theorem eaF_f {p : Nat → Bool} {n k : Nat} (h : p k = false) : eaF p (n + 1) k = eaF p n (k + 1) := if_neg (by rw [h]; decide)
theorem eaF_cg {p p' : Nat → Bool} {N : Nat} (h : ∀ k, k < N → p k = p' k) : ∀ n k, n + k ≤ N → eaF p n k = eaF p' n k
  | 0, _, _ => rfl
  | n + 1, k, hk => by
    show (if p k = true then nI k else eaF p n (k + 1)) = (if p' k = true then nI k else eaF p' n (k + 1))
    rw [h k (by omega), eaF_cg h n (k + 1) (by omega)]
def erP (T : TP) (m : Nat) (pm : Nat → Int32 × Nat) (c : Nat) (e : Nat → Nat) : Nat → Bool := fun k => (e k).testBit c && decide (hrs T.hF T.gF c m (pm c) k < hrs T.hF T.gF c m (pm c) 0)
theorem erP_t {T : TP} {m : Nat} {pm : Nat → Int32 × Nat} {c : Nat} {e : Nat → Nat} {k : Nat} (h1 : (e k).testBit c = true) (h2 : hrs T.hF T.gF c m (pm c) k < hrs T.hF T.gF c m (pm c) 0) : erP T m pm c e k = true := by
  unfold erP
  rw [h1, decide_eq_true h2]
  rfl
theorem erP_f1 {T : TP} {m : Nat} {pm : Nat → Int32 × Nat} {c : Nat} {e : Nat → Nat} {k : Nat} (h1 : ¬ (e k).testBit c = true) : erP T m pm c e k = false := by
  unfold erP
  rw [Bool.eq_false_iff.mpr h1]
  rfl
theorem erP_f2 {T : TP} {m : Nat} {pm : Nat → Int32 × Nat} {c : Nat} {e : Nat → Nat} {k : Nat} (h2 : ¬ hrs T.hF T.gF c m (pm c) k < hrs T.hF T.gF c m (pm c) 0) : erP T m pm c e k = false := by
  unfold erP
  rw [decide_eq_false h2, Bool.and_false]
