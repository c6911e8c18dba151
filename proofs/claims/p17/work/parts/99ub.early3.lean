/-! EARLY ON BOTH SIDES: the answers -/
theorem xearlyV {n0 q nr c m : Nat} {T : TP} {pm : Nat → Int32 × Nat} {s : Nat × List (Nat × Nat)} {A B V : Nat → Nat} {S : Nat → Nat → Nat} {M : Mem} (hn : 1700 ≤ n0) (hT : XT n0 q T M) (hS : SX q T.nc T.nd m pm s M) (hO : PsO T.nt T.nc pm) (hV : XRdV q nr A B V M) (hR : RdS T.nc nr A B V S) (hq1 : gR M 1 = q) (hc : c < T.nc) (hm : m ≤ 9999) (h23 : ∀ k, k ≤ 60 → hrs T.hF T.gF c m (pm c) k ≤ 23) : ∃ M' e, ((fX11_foresee n0 26 (nI c) (60 : Int32) M).bind fun z21 => (fX10_goOutFrom n0 (gR z21.2 1) (nI c) z21.2).bind fun z34 => fX11_early_39 n0 (nI c) z21.1 (1 : Int32) z34) = some (eaF (erP T m pm c e) (min 60 (9999 - m)) 1, M') ∧ XF scA M M' ∧ RcE S c 61 e := by
  have o2 := hT.2.1.2.1
  obtain ⟨X1, a1, a2, a3⟩ := xfc (n0 := n0) (q1 := 26) (most := 60) hn hT hS hO hc hm (by decide) (Or.inl rfl)
  have f1 : XF scA M X1 := a3.wk (fun a y => by unfold scA; omega)
  have T1 := hT.xf f1 scA31
  obtain ⟨X2, e, b1, b2, b3, b4⟩ := xoutV (n0 := n0) hn T1 (hV.tw (f1.tw hT.1.1 scA31)) hR hc
  have f2 : XF scA M X2 := f1.tr (b2.wk (fun a (y : a = 20) => by unfold scA; omega))
  have h26 : ∀ j, j ≤ min 60 (9999 - m) → gA X2 26 j = nI (hrs T.hF T.gF c m (pm c) j) := fun j hj => by
    rw [b2.gA (a := 26) (show ¬ (26 : Nat) = 20 by decide) (by decide)]
    exact a2 j hj
  have lp : ∀ w k, k ≤ min 60 (9999 - m) + 1 → 1 ≤ k → min 60 (9999 - m) + 1 < w + k → loopN (bX11_early_39 n0) (fun _ _ _ _ => none) w (nI c) (nI (min 60 (9999 - m))) (nI k) X2 = some (eaF (erP T m pm c e) (min 60 (9999 - m) + 1 - k) k, X2) := fun w => by
    induction w with
    | zero => intro k hk _ hw; omega
    | succ w ih =>
      intro k hk hk1 hw
      show bX11_early_39 n0 (loopN (bX11_early_39 n0) (fun _ _ _ _ => none) w) (nI c) (nI (min 60 (9999 - m))) (nI k) X2 = _
      by_cases g : k = min 60 (9999 - m) + 1
      · rw [show min 60 (9999 - m) + 1 - k = 0 by omega]
        unfold bX11_early_39
        exact eq_t (nI_lt (by omega) (by omega)) rfl
      · obtain ⟨t, et⟩ : ∃ t, min 60 (9999 - m) + 1 - k = t + 1 := ⟨min 60 (9999 - m) - k, by omega⟩
        have st : ¬ nI (min 60 (9999 - m)) < nI k := fun z => by have := (nI_ltI (by omega) (by omega)).mp z; omega
        have k1 : nI k + 1 = nI (k + 1) := nI_add k 1
        have ck : (nI k).toNatClampNeg = k := nI_clamp (by omega)
        have nx := ih (k + 1) (by omega) (by omega) (by omega)
        rw [show min 60 (9999 - m) + 1 - (k + 1) = t by omega] at nx
        have v0 := h26 0 (by omega)
        have vk := h26 k (by omega)
        have l0 := h23 0 (by omega)
        have lk := h23 k (by omega)
        have cb : fX10_canBeAt n0 (nI c) (nI k) X2 = some (bI ((e k).testBit c = true), X2) := by
          have ev : gA X2 20 (nI k).toNatClampNeg = nI (e k) := by rw [ck]; exact b4 k (by omega)
          have hb := hasB (e k) (b3.2.1 k (by omega)) c (by omega)
          have s60 : ¬ (60 : Int32) < nI k := fun z => by have := (nI_ltI (a := 60) (by decide) (by omega)).mp z; omega
          unfold fX10_canBeAt
          by_cases z : (e k).testBit c = true
          · rw [bI_t z]
            exact eq_f (nI_nn (by omega)) (eq_f s60 (eq_f (nI_in (by omega) (by decide)) (eq_t (by rw [ev]; exact hb.mpr z) rfl)))
          · rw [bI_f z]
            exact eq_f (nI_nn (by omega)) (eq_f s60 (eq_f (nI_in (by omega) (by decide)) (eq_f (by rw [ev]; exact fun y => z (hb.mp y)) rfl)))
        by_cases z : (e k).testBit c = true
        · have zb : ¬ bI ((e k).testBit c = true) = 0 := by rw [bI_t z]; decide
          by_cases y : hrs T.hF T.gF c m (pm c) k < hrs T.hF T.gF c m (pm c) 0
          · rw [et, eaF_t (erP_t z y)]
            unfold bX11_early_39
            refine eq_f st (eq_b cb (eq_f zb (eq_f (nI_in (by omega) (by decide)) (eq_f (by decide) (eq_f ?_ rfl)))))
            show ¬ gA X2 26 (Int32.toNatClampNeg 0) ≤ gA X2 26 (nI k).toNatClampNeg
            rw [cl0, ck, v0, vk]
            exact nI_ge y (by omega)
          · rw [et, eaF_f (erP_f2 y)]
            unfold bX11_early_39 fX11_early_73
            rw [k1]
            refine eq_f st (eq_b cb (eq_f zb (eq_f (nI_in (by omega) (by decide)) (eq_f (by decide) (eq_t ?_ nx)))))
            show gA X2 26 (Int32.toNatClampNeg 0) ≤ gA X2 26 (nI k).toNatClampNeg
            rw [cl0, ck, v0, vk]
            exact nI_le (by omega) (by omega)
        · rw [et, eaF_f (erP_f1 z)]
          unfold bX11_early_39 fX11_early_73
          rw [k1]
          exact eq_f st (eq_b cb (eq_t (bI_f z) nx))
  refine ⟨X2, e, eq_b a1 (eq_b (z := X2) (by rw [show gR X1 1 = q by rw [f1.1]; exact hq1]; exact b1) ?_), f2, b3⟩
  have := lp n0 1 (by omega) (by omega) (by omega)
  rw [Nat.add_sub_cancel] at this
  exact this
/-- corners of the reference, one pair after the other, at minute n -/
def StE (S : Nat → Nat → Nat) (e : Nat → Nat) (n a t x : Nat) : Prop := x < 32 ∧ ∀ j, j < 5 → (x.testBit j = true ↔ ∃ a', (a' < a ∨ (a' = a ∧ j < t)) ∧ 0 < S a' j ∧ S a' j ≤ n ∧ (e (n - S a' j)).testBit a' = true)
theorem StE.z {S : Nat → Nat → Nat} {e : Nat → Nat} {n : Nat} : StE S e n 0 0 0 := ⟨by decide, fun j _ => ⟨fun z => by rw [Nat.zero_testBit] at z; exact absurd z (by decide), fun ⟨a', h, _⟩ => by omega⟩⟩
theorem StE.skip {S : Nat → Nat → Nat} {e : Nat → Nat} {n a t x : Nat} (h : StE S e n a t x) (hv : ¬ (0 < S a t ∧ S a t ≤ n ∧ (e (n - S a t)).testBit a = true)) : StE S e n a (t + 1) x := ⟨h.1, fun j hj => (h.2 j hj).trans ⟨fun ⟨a', h1, h2⟩ => ⟨a', by omega, h2⟩, fun ⟨a', h1, h2⟩ => ⟨a', by
  by_cases g : a' = a ∧ j = t
  · rw [g.1, g.2] at h2
    exact absurd h2 hv
  · omega, h2⟩⟩⟩
theorem StE.add {S : Nat → Nat → Nat} {e : Nat → Nat} {n a t x : Nat} (h : StE S e n a t x) (ht : t < 5) (hv : 0 < S a t ∧ S a t ≤ n ∧ (e (n - S a t)).testBit a = true) : StE S e n a (t + 1) (x ||| 2 ^ t) := by
  refine ⟨Nat.or_lt_two_pow (n := 5) h.1 (Nat.pow_lt_pow_right (by decide) ht), fun j hj => ?_⟩
  rw [Nat.testBit_or, Bool.or_eq_true, h.2 j hj, Nat.testBit_two_pow, decide_eq_true_iff]
  constructor
  · intro z
    rcases z with ⟨a', h1, h2⟩ | z
    · exact ⟨a', by omega, h2⟩
    · rw [← z]
      exact ⟨a, by omega, hv⟩
  · intro ⟨a', h1, h2⟩
    by_cases g : t = j
    · exact Or.inr g
    · exact Or.inl ⟨a', by omega, h2⟩
theorem StE.row {S : Nat → Nat → Nat} {e : Nat → Nat} {n a x : Nat} (h : StE S e n a 5 x) : StE S e n (a + 1) 0 x := ⟨h.1, fun j hj => (h.2 j hj).trans ⟨fun ⟨a', h1, h2⟩ => ⟨a', by omega, h2⟩, fun ⟨a', h1, h2⟩ => ⟨a', by omega, h2⟩⟩⟩
theorem StE.rc {S : Nat → Nat → Nat} {e : Nat → Nat} {n x : Nat} (h : StE S e n 5 0 x) : ∀ j, j < 5 → (x.testBit j = true ↔ ∃ a, a < 5 ∧ 0 < S a j ∧ S a j ≤ n ∧ (e (n - S a j)).testBit a = true) := fun j hj => (h.2 j hj).trans ⟨fun ⟨a', h1, h2⟩ => ⟨a', by omega, h2⟩, fun ⟨a', h1, h2⟩ => ⟨a', by omega, h2⟩⟩
theorem yearlyV {n0 b c m : Nat} {T : TP} {pm : Nat → Int32 × Nat} {s : Nat × List (Nat × Nat)} {S : Nat → Nat → Nat} {M : Mem} (hn : 1700 ≤ n0) (hY : YT n0 b T M) (hL : LyD 0 T.nc m pm s M) (hO : PsO T.nt T.nc pm) (hs : sOk T.nd s) (h8 : S8 b S M) (hc : c < T.nc) (hm : m ≤ 9999) (h23 : ∀ k, k ≤ 60 → hrs T.hF T.gF c m (pm c) k ≤ 23) (h0 : gA M 38 0 = nI (2 ^ c)) : ∃ M' e, fX12_early_21 n0 (nI c) (1 : Int32) M = some (eaF (erP T m pm c e) (min 60 (9999 - m)) 1, M') ∧ YF eP M M' ∧ RcE S c 61 e := by
  obtain ⟨o1, o2, o3, _⟩ := hY.2.1
  have hb := hY.2.2.1
  have hl := hs.l
  have h13 : ∀ M', YF eP M M' → gI M' 13 = nI b := fun M' f => by rw [f.2.2.1]; exact hY.2.2.2.1
  have St : ∀ M', YF eP M M' → ∀ a t, a < 5 → t < 5 → gA M' 8 (25 * b + 5 * a + t) = nI (S a t) ∧ S a t ≤ 30 := fun M' f a t ha ht => by
    rw [f.gA (a := 8) (fun i z => by unfold eP lP tP dP at z; omega) (by decide), Nat.add_assoc]
    exact h8 a t ha ht
  -- from one corner
  have l44 : ∀ (k21 : Int32 → Int32 → Mem → Option (Int32 × Mem)) (k36 : Int32 → Int32 → Int32 → Mem → Option (Int32 × Mem)) (n a : Nat) (e : Nat → Nat), 1 ≤ n → n ≤ 60 → a < 5 → (∀ i, i < n → e i < 32) → ∀ w t s x, t ≤ 5 → 5 < w + t → YF eP M s → (∀ i, i < n → gA s 38 i = nI (e i)) → gA s 38 n = nI x → StE S e n a t x → ∃ s' x', loopN (bX12_early_44 n0 k21 k36) (fun _ _ _ _ _ => none) w (nI c) (nI n) (nI a) (nI t) s = k36 (nI c) (nI n) (nI (a + 1)) s' ∧ YF eP M s' ∧ (∀ i, i < n → gA s' 38 i = nI (e i)) ∧ gA s' 38 n = nI x' ∧ StE S e n a 5 x' := fun k21 k36 n a e hn1 hn2 ha he w => by
    induction w with
    | zero => intro t s x ht hw; omega
    | succ w ih =>
      intro t s x ht hw hf hE hx hD
      show ∃ s' x', bX12_early_44 n0 k21 k36 (loopN (bX12_early_44 n0 k21 k36) (fun _ _ _ _ _ => none) w) (nI c) (nI n) (nI a) (nI t) s = _ ∧ _
      by_cases g : t = 5
      · subst g
        refine ⟨s, x, ?_, hf, hE, hx, hD⟩
        unfold bX12_early_44
        refine eq_t (by decide) ?_
        rw [show nI a + 1 = nI (a + 1) from nI_add a 1]
      · have ht' : t < 5 := by omega
        obtain ⟨v2, v1⟩ := St s hf a t ha ht'
        have ea : fX12_at n0 (gI s 13) (nI a) (nI t) s = some (nI (25 * b + 5 * a + t), s) := by
          unfold fX12_at
          rw [h13 s hf, y25Ix]
        have oi : ¬ oob (nI (25 * b + 5 * a + t)) 50 := nI_in (by omega) (by decide)
        have on : ¬ oob (nI n) 61 := nI_in (by omega) (by decide)
        have cn : (nI n).toNatClampNeg = n := nI_clamp (by omega)
        have k1 : nI t + 1 = nI (t + 1) := nI_add t 1
        have ev : gA s 8 (nI (25 * b + 5 * a + t)).toNatClampNeg = nI (S a t) := by rw [nI_clamp (by omega)]; exact v2
        have stp : ¬ (5 : Int32) ≤ nI t := nI_ge (b := 5) ht' (by decide)
        have nxt : ∀ u x', gA s 38 (nI n).toNatClampNeg ||| u = nI x' → StE S e n a (t + 1) x' → ∃ s' x'', fX12_early_110 n0 k21 k36 (loopN (bX12_early_44 n0 k21 k36) (fun _ _ _ _ _ => none) w) (nI c) (nI n) (nI a) (nI t) (nI n) (gA s 38 (nI n).toNatClampNeg) u s = k36 (nI c) (nI n) (nI (a + 1)) s' ∧ YF eP M s' ∧ (∀ i, i < n → gA s' 38 i = nI (e i)) ∧ gA s' 38 n = nI x'' ∧ StE S e n a 5 x'' := fun u x' hu hD' => by
          obtain ⟨s', x'', i1, i2⟩ := ih (t + 1) (sA s 38 n (nI x')) x' (by omega) (by omega) (hf.a (Or.inr rfl)) (fun i hi => by rw [gA_sA, if_pos rfl, if_neg (by omega)]; exact hE i hi) (by rw [gA_sA, if_pos rfl, if_pos rfl]) hD'
          refine ⟨s', x'', ?_, i2⟩
          unfold fX12_early_110
          refine eq_f on (eq_e (v' := sA s 38 n (nI x')) (by rw [hu, cn]) ?_)
          rw [k1]
          exact i1
        have nx0 : ¬ (0 < S a t ∧ S a t ≤ n ∧ (e (n - S a t)).testBit a = true) → ∃ s' x'', fX12_early_109 n0 k21 k36 (loopN (bX12_early_44 n0 k21 k36) (fun _ _ _ _ _ => none) w) (nI c) (nI n) (nI a) (nI t) (nI n) (gA s 38 (nI n).toNatClampNeg) s = k36 (nI c) (nI n) (nI (a + 1)) s' ∧ YF eP M s' ∧ (∀ i, i < n → gA s' 38 i = nI (e i)) ∧ gA s' 38 n = nI x'' ∧ StE S e n a 5 x'' := fun hv => nxt 0 x (by rw [cn, hx, show (0 : Int32) = nI 0 from rfl, nOr, Nat.or_zero]) (hD.skip hv)
        by_cases g1 : S a t = 0
        · obtain ⟨s', x', i1, i2⟩ := nx0 (fun z => by omega)
          refine ⟨s', x', ?_, i2⟩
          unfold bX12_early_44
          exact eq_f stp (eq_b ea (eq_f oi (eq_e ev (eq_f on (eq_t (by rw [g1]; decide) i1)))))
        · have g1' : ¬ nI (S a t) ≤ 0 := nI_ge (a := 0) (by omega) (by omega)
          by_cases g2 : n < S a t
          · obtain ⟨s', x', i1, i2⟩ := nx0 (fun z => by omega)
            refine ⟨s', x', ?_, i2⟩
            unfold bX12_early_44
            exact eq_f stp (eq_b ea (eq_f oi (eq_e ev (eq_f on (eq_f g1' (eq_t (nI_lt g2 (by omega)) i1))))))
          · have g2' : ¬ nI n < nI (S a t) := fun z => g2 ((nI_ltI (by omega) (by omega)).mp z)
            have sb : nI n - nI (S a t) = nI (n - S a t) := nI_subN (by omega)
            have od : ¬ oob (nI n - nI (S a t)) 61 := by rw [sb]; exact nI_in (by omega) (by decide)
            have hb2 := hasB (e (n - S a t)) (he _ (by omega)) a ha
            have e38 : gA s 38 (nI n - nI (S a t)).toNatClampNeg = nI (e (n - S a t)) := by rw [sb, nI_clamp (by omega)]; exact hE _ (by omega)
            by_cases g3 : (e (n - S a t)).testBit a = true
            · have er : fX12_has2 n0 (gA s 38 (nI n - nI (S a t)).toNatClampNeg) (nI a) s = some (1, s) := by
                rw [e38]
                unfold fX12_has2
                exact eq_t (hb2.mpr g3) rfl
              obtain ⟨s', x', i1, i2⟩ := nxt ((1 : Int32) <<< (nI t &&& 31)) (x ||| 2 ^ t) (by rw [cn, hx, (one_bit t ht').1, nOr]) (hD.add ht' ⟨by omega, by omega, g3⟩)
              refine ⟨s', x', ?_, i2⟩
              unfold bX12_early_44
              exact eq_f stp (eq_b ea (eq_f oi (eq_e ev (eq_f on (eq_f g1' (eq_f g2' (eq_f od (eq_b er (eq_f (show ¬ (1 : Int32) = 0 by decide) i1)))))))))
            · have er : fX12_has2 n0 (gA s 38 (nI n - nI (S a t)).toNatClampNeg) (nI a) s = some (0, s) := by
                rw [e38]
                unfold fX12_has2
                exact eq_f (fun y => g3 (hb2.mp y)) rfl
              obtain ⟨s', x', i1, i2⟩ := nx0 (fun z => g3 z.2.2)
              refine ⟨s', x', ?_, i2⟩
              unfold bX12_early_44
              exact eq_f stp (eq_b ea (eq_f oi (eq_e ev (eq_f on (eq_f g1' (eq_f g2' (eq_f od (eq_b er (eq_t rfl i1)))))))))
  -- one minute
  have l36 : ∀ (k21 : Int32 → Int32 → Mem → Option (Int32 × Mem)) (n : Nat) (e : Nat → Nat), 1 ≤ n → n ≤ 60 → (∀ i, i < n → e i < 32) → ∀ w a s x, a ≤ 5 → 5 < w + a → YF eP M s → (∀ i, i < n → gA s 38 i = nI (e i)) → gA s 38 n = nI x → StE S e n a 0 x → ∃ s' x', loopN (bX12_early_36 n0 k21) (fun _ _ _ _ => none) w (nI c) (nI n) (nI a) s = k21 (nI c) (nI (n + 1)) s' ∧ YF eP M s' ∧ (∀ i, i < n → gA s' 38 i = nI (e i)) ∧ gA s' 38 n = nI x' ∧ StE S e n 5 0 x' := fun k21 n e hn1 hn2 he w => by
    induction w with
    | zero => intro a s x ha hw; omega
    | succ w ih =>
      intro a s x ha hw hf hE hx hD
      show ∃ s' x', bX12_early_36 n0 k21 (loopN (bX12_early_36 n0 k21) (fun _ _ _ _ => none) w) (nI c) (nI n) (nI a) s = _ ∧ _
      by_cases g : a = 5
      · subst g
        refine ⟨s, x, ?_, hf, hE, hx, hD⟩
        unfold bX12_early_36
        refine eq_t (by decide) ?_
        rw [show nI n + 1 = nI (n + 1) from nI_add n 1]
      · obtain ⟨s2, x2, j1, j2, j3, j4, j5⟩ := l44 k21 (loopN (bX12_early_36 n0 k21) (fun _ _ _ _ => none) w) n a e hn1 hn2 (by omega) he n0 0 s x (by omega) (by omega) hf hE hx hD
        obtain ⟨s', x', i1, i2⟩ := ih (a + 1) s2 x2 (by omega) (by omega) j2 j3 j4 j5.row
        refine ⟨s', x', ?_, i2⟩
        unfold bX12_early_36
        exact eq_f (nI_ge (b := 5) (by omega) (by decide)) (j1.trans i1)
  -- minutes ahead
  have l145 : ∀ (e : Nat → Nat), RcE S c 61 e → ∀ w k M1, k ≤ min 60 (9999 - m) + 1 → 1 ≤ k → min 60 (9999 - m) + 1 < w + k → YF eP M M1 → (∀ i, i < 61 → gA M1 38 i = nI (e i)) → LyD 1 T.nc (m + (k - 1)) (trP T m pm (k - 1)) s M1 → ∃ M', loopN (bX12_early_145 n0) (fun _ _ _ _ => none) w (nI c) (nI (hrs T.hF T.gF c m (pm c) 0)) (nI k) M1 = some (eaF (erP T m pm c e) (min 60 (9999 - m) + 1 - k) k, M') ∧ YF eP M M' := fun e hC w => by
    induction w with
    | zero => intro k M1 hk _ hw; omega
    | succ w ih =>
      intro k M1 hk hk1 hw hI hE hL1
      show ∃ M', bX12_early_145 n0 (loopN (bX12_early_145 n0) (fun _ _ _ _ => none) w) (nI c) (nI (hrs T.hF T.gF c m (pm c) 0)) (nI k) M1 = _ ∧ _
      have m28 : gA M1 28 0 = nI m := m28f hL.1.1 hI ePn
      have Y1 := hY.yf hI eP28
      by_cases g : k = min 60 (9999 - m) + 1
      · refine ⟨M1, ?_, hI⟩
        rw [show min 60 (9999 - m) + 1 - k = 0 by omega]
        unfold bX12_early_145
        exact eq_b (yahF (lo := 1) (hi := 60) m28 hm (by decide) (by decide) (by omega) (by omega)) (eq_t rfl rfl)
      · obtain ⟨j, rfl⟩ : ∃ j, k = j + 1 := ⟨k - 1, by omega⟩
        rw [Nat.add_sub_cancel] at hL1
        obtain ⟨t, et⟩ : ∃ t, min 60 (9999 - m) + 1 - (j + 1) = t + 1 := ⟨min 60 (9999 - m) - (j + 1), by omega⟩
        have et2 : min 60 (9999 - m) + 1 - (j + 1 + 1) = t := by omega
        obtain ⟨M2, g1, g2, g3⟩ := ytickD (v := 1) hn Y1 (by decide) hL1 (trP_ok hO j) hs (by omega)
        have f2 := hI.tr (le1 g3)
        have E2 : ∀ i, i < 61 → gA M2 38 i = nI (e i) := fun i hi => by
          rw [g3.gA (a := 38) (fun i z => by unfold lP tP dP at z; omega) (by decide)]
          exact hE i hi
        have k1 : nI (j + 1) + 1 = nI (j + 1 + 1) := nI_add (j + 1) 1
        have ck : (nI (j + 1)).toNatClampNeg = j + 1 := nI_clamp (by omega)
        have hb2 := hasB (e (j + 1)) (hC.2.1 _ (by omega)) c (by omega)
        have ah := yahT (n0 := n0) (lo := 1) (hi := 60) (k := j + 1) m28 (by omega) (by omega) (by decide) (by omega)
        have lk := h23 (j + 1) (by omega)
        have l0 := h23 0 (by omega)
        have e38 : gA M2 38 (nI (j + 1)).toNatClampNeg = nI (e (j + 1)) := by rw [ck]; exact E2 _ (by omega)
        by_cases z : (e (j + 1)).testBit c = true
        · have er : fX12_has2 n0 (gA M2 38 (nI (j + 1)).toNatClampNeg) (nI c) M2 = some (1, M2) := by
            rw [e38]
            unfold fX12_has2
            exact eq_t (hb2.mpr z) rfl
          obtain ⟨_, M3, e1, e2⟩ := yhr (hY.yf f2 eP28) (v := 1) (by decide) g2.1 (trP_ok hO (j + 1)) (by omega) hc
          have f3 := f2.tr (e2.y : YF eP M2 M3)
          have e1' : fX12_hour n0 (nI 1) (nI c) M2 = some (nI (hrs T.hF T.gF c m (pm c) (j + 1)), M3) := e1
          by_cases y : hrs T.hF T.gF c m (pm c) (j + 1) < hrs T.hF T.gF c m (pm c) 0
          · refine ⟨M3, ?_, f3⟩
            rw [et, eaF_t (erP_t z y)]
            unfold bX12_early_145
            exact eq_b ah (eq_f (show ¬ (1 : Int32) = 0 by decide) (eq_b g1 (eq_f (nI_in (by omega) (by decide)) (eq_b er (eq_f (show ¬ (1 : Int32) = 0 by decide) (eq_b e1' (eq_f (nI_ge y (by omega)) rfl)))))))
          · obtain ⟨M', i1, i2⟩ := ih (j + 1 + 1) M3 (by omega) (by omega) (by omega) f3 (fun i hi => by rw [e2.2.2.2.1 38 (by decide)]; exact E2 i hi) (LyD.fr (P := fun _ _ => False) g2 e2.y o2 (by omega) (fun _ _ z => z.elim))
            refine ⟨M', ?_, i2⟩
            rw [et2] at i1
            rw [et, eaF_f (erP_f2 y)]
            unfold bX12_early_145 fX12_early_186
            rw [k1]
            exact eq_b ah (eq_f (show ¬ (1 : Int32) = 0 by decide) (eq_b g1 (eq_f (nI_in (by omega) (by decide)) (eq_b er (eq_f (show ¬ (1 : Int32) = 0 by decide) (eq_b e1' (eq_t (nI_le (by omega) (by omega)) i1)))))))
        · have er : fX12_has2 n0 (gA M2 38 (nI (j + 1)).toNatClampNeg) (nI c) M2 = some (0, M2) := by
            rw [e38]
            unfold fX12_has2
            exact eq_f (fun y => z (hb2.mp y)) rfl
          obtain ⟨M', i1, i2⟩ := ih (j + 1 + 1) M2 (by omega) (by omega) (by omega) f2 E2 g2
          refine ⟨M', ?_, i2⟩
          rw [et2] at i1
          rw [et, eaF_f (erP_f1 z)]
          unfold bX12_early_145 fX12_early_186
          rw [k1]
          exact eq_b ah (eq_f (show ¬ (1 : Int32) = 0 by decide) (eq_b g1 (eq_f (nI_in (by omega) (by decide)) (eq_b er (eq_t rfl i1)))))
  -- minute after minute
  have l21 : ∀ w n s1 e, n ≤ 61 → 1 ≤ n → 61 < w + n → YF eP M s1 → RcE S c n e → (∀ i, i < n → gA s1 38 i = nI (e i)) → ∃ M' e', loopN (bX12_early_21 n0) (fun _ _ _ => none) w (nI c) (nI n) s1 = some (eaF (erP T m pm c e') (min 60 (9999 - m)) 1, M') ∧ YF eP M M' ∧ RcE S c 61 e' := fun w => by
    induction w with
    | zero => intro n s1 e hn hn1 hw; omega
    | succ w ih =>
      intro n s1 e hn' hn1 hw hf hC hE
      show ∃ M' e', bX12_early_21 n0 (loopN (bX12_early_21 n0) (fun _ _ _ => none) w) (nI c) (nI n) s1 = _ ∧ _
      by_cases g : n = 61
      · subst g
        have Y1 := hY.yf hf eP28
        have L1 : LyD 0 T.nc m pm s s1 := hL.fr hf o2 (by omega) (fun a i z y => by unfold eP lP tP dP at z; unfold lP tP dP at y; omega)
        obtain ⟨_, M2, e1, e2⟩ := yhr Y1 (v := 0) (by decide) L1.1 hO (by omega) hc
        have L2 : LyD 0 T.nc m pm s M2 := LyD.fr (P := fun _ _ => False) L1 e2.y o2 (by omega) (fun _ _ z => z.elim)
        obtain ⟨M3, b1, b2, b3⟩ := ycopyD (n0 := n0) (v := 1) (u := 0) hn (by decide) (by decide) (by decide) o2 (by omega) L2
        have f3 := hf.tr ((e2.y : YF eP s1 M2).tr (le1 b3))
        have E3 : ∀ i, i < 61 → gA M3 38 i = nI (e i) := fun i hi => by
          rw [b3.gA (a := 38) (fun i z => by unfold lP tP dP at z; omega) (by decide), e2.2.2.2.1 38 (by decide)]
          exact hE i hi
        obtain ⟨M', i1, i2⟩ := l145 e hC n0 1 M3 (by omega) (by omega) (by omega) f3 E3 b2
        rw [Nat.add_sub_cancel] at i1
        refine ⟨M', e, ?_, i2, hC⟩
        unfold bX12_early_21
        have e1' : fX12_hour n0 (nI 0) (nI c) s1 = some (nI (hrs T.hF T.gF c m (pm c) 0), M2) := e1
        exact eq_t (by decide) (eq_b e1' (eq_b b1 i1))
      · have cn : (nI n).toNatClampNeg = n := nI_clamp (by omega)
        obtain ⟨s2, x, j1, j2, j3, j4, j5⟩ := l36 (loopN (bX12_early_21 n0) (fun _ _ _ => none) w) n e hn1 (by omega) hC.2.1 n0 0 (sA s1 38 n 0) 0 (by omega) (by omega) (hf.a (Or.inr rfl)) (fun i hi => by rw [gA_sA, if_pos rfl, if_neg (by omega)]; exact hE i hi) (by rw [gA_sA, if_pos rfl, if_pos rfl]; rfl) StE.z
        obtain ⟨M', e', i1, i2⟩ := ih (n + 1) s2 (exE e n x) (by omega) (by omega) (by omega) j2 (hC.step hn1 j5.1 j5.rc) (fun i hi => by
          by_cases z : i = n
          · rw [z, exE_n]; exact j4
          · rw [exE_ne z]; exact j3 i (by omega))
        refine ⟨M', e', ?_, i2⟩
        unfold bX12_early_21
        exact eq_f (fun z => by have := (nI_ltI (a := 60) (by decide) (by omega)).mp z; omega) (eq_f (nI_in (by omega) (by decide)) (eq_e (v' := sA s1 38 n 0) (by rw [cn]) (j1.trans i1)))
  have ob := one_bit c (by omega)
  exact l21 n0 1 M (fun _ => 2 ^ c) (by omega) (by omega) (by omega) YF.r ⟨rfl, fun i hi => ob.2.1, fun i i1 i2 => by omega⟩ (fun i hi => by rw [show i = 0 by omega]; exact h0)
theorem cEarly {n0 : Nat} {x : Int32} {MX MY : Mem} (hn : 1700 ≤ n0) (h : R n0 MX MY) : Cal n0 (fX11_early n0 x MX) (fX12_early n0 x MY) := by
  obtain ⟨q, b, T, nr, C, m, pm, s, h⟩ := h
  obtain ⟨h1, h2, h3, h4, _⟩ := id h
  obtain ⟨o1, o2, o3, _⟩ := h1.2.2.2.1.2.1
  have hl := h2.2.2.l
  rcases isCo h1 x with ⟨c, hc, rfl, e1, e2⟩ | ⟨_, e1, e2⟩
  · have ob := one_bit c (by omega)
    have hm := h2.1
    have f1 : YF eP MY (sA MY 38 0 (nI (2 ^ c))) := YF.r.a (Or.inr rfl)
    have h23 : ∀ k, k ≤ 60 → hrs T.hF T.gF c m (pm c) k ≤ 23 := fun k hk => hrs_le h1.2.2.2.2.1 hc (h2.2.1 c hc) (by omega)
    obtain ⟨S, F, A, B, V, h8, h9, hI, hR, hV⟩ := h1.far (by omega)
    obtain ⟨X, e, x1, x2, x3⟩ := xearlyV (n0 := n0) hn h1.2.2.2.1 h3 h2.2.1 hV hR h1.2.1 hc hm h23
    obtain ⟨Y, e', y1, y2, y3⟩ := yearlyV (n0 := n0) (S := S) hn (h1.2.2.2.2.1.yf f1 eP28) (h4.fr f1 o2 (by omega) (fun a i z y => by unfold eP lP tP dP at z; unfold lP tP dP at y; omega)) h2.2.1 h2.2.2 (show S8 b S (sA MY 38 0 (nI (2 ^ c))) from fun a c' ha hc' => by rw [gA_sA_ne (by decide)]; exact h8 a c' ha hc') hc hm h23 (by rw [gA_sA, if_pos rfl, if_pos rfl])
    have ee : eaF (erP T m pm c e) (min 60 (9999 - m)) 1 = eaF (erP T m pm c e') (min 60 (9999 - m)) 1 := eaF_cg (N := 61) (fun k hk => by unfold erP; rw [x3.uq y3 k hk]) _ _ (by omega)
    refine Cal.scr h (MX' := X) (MY' := Y) (r := eaF (erP T m pm c e) (min 60 (9999 - m)) 1) ?_ ?_ x2 (ePsc (f1.tr y2))
    · unfold fX11_early
      exact eq_b e1 (eq_f (show ¬ (1 : Int32) = 0 by decide) x1)
    · rw [ee]
      unfold fX12_early
      exact eq_b e2 (eq_f (show ¬ (1 : Int32) = 0 by decide) (eq_f (by decide) (eq_e (v' := sA MY 38 0 (nI (2 ^ c))) (by rw [ob.1, cl0]) y1)))
  · refine Cal.scr (r := -1) (MX' := MX) (MY' := MY) h ?_ ?_ XF.r YF.r
    · unfold fX11_early
      exact eq_b e1 (eq_t rfl rfl)
    · unfold fX12_early
      exact eq_b e2 (eq_t rfl rfl)
