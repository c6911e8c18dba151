/-! WHAT WAS HELD: the reference, and the call -/
def cnt (P : Nat → Bool) : Nat → Nat
  | 0 => 0
  | i + 1 => cnt P i + b01 (P i)
theorem cnt_le (P : Nat → Bool) : ∀ i, cnt P i ≤ i
  | 0 => Nat.le_refl _
  | i + 1 => by
    have := cnt_le P i
    have := b01_le (P i)
    show cnt P i + b01 (P i) ≤ i + 1
    omega
theorem cnt_full {P : Nat → Bool} : ∀ n, cnt P n = n ↔ ∀ i, i < n → P i = true
  | 0 => ⟨fun _ i hi => by omega, fun _ => rfl⟩
  | n + 1 => by
    have ih := cnt_full (P := P) n
    have l := cnt_le P n
    show cnt P n + b01 (P n) = n + 1 ↔ _
    constructor
    · intro h
      have b := b01_le (P n)
      have e1 : cnt P n = n := by omega
      have e2 : P n = true := by
        by_cases z : P n = true
        · exact z
        · have : b01 (P n) = 0 := if_neg z
          omega
      intro i hi
      by_cases z : i = n
      · rw [z]; exact e2
      · exact ih.mp e1 i (by omega)
    · intro h
      rw [ih.mpr (fun i hi => h i (by omega)), h n (by omega)]
      rfl
theorem cnt_add {P Q S : Nat → Bool} : ∀ n, (∀ i, i < n → b01 (P i) + b01 (Q i) = b01 (S i)) → cnt P n + cnt Q n = cnt S n
  | 0, _ => rfl
  | n + 1, h => by
    have ih := cnt_add (P := P) (Q := Q) (S := S) n (fun i hi => h i (by omega))
    have e := h n (by omega)
    show cnt P n + b01 (P n) + (cnt Q n + b01 (Q n)) = cnt S n + b01 (S n)
    omega
theorem YRw.fr {n nc : Nat} {ra rc rh : Nat → Nat} {P : Nat → Nat → Prop} {M M' : Mem} (h : YRw n nc ra rc rh M) (f : YF P M M') (hP : ∀ a i, P a i → ¬ (39 ≤ a ∧ a ≤ 41)) : YRw n nc ra rc rh M' := ⟨h.1, by rw [f.2.2.1]; exact h.2.1, fun k hk => by
  rw [f.gA (a := 39) (fun i z => hP 39 i z (by decide)) (by decide), f.gA (a := 40) (fun i z => hP 40 i z (by decide)) (by decide), f.gA (a := 41) (fun i z => hP 41 i z (by decide)) (by decide)]
  exact h.2.2 k hk⟩
/-- layer 1 and the hours by each thing -/
def hP (a i : Nat) : Prop := lP 1 a i ∨ a = 42
theorem hP28 : ∀ a i, hP a i → 28 ≤ a := fun a i z => by unfold hP lP tP dP at z; omega
theorem hP39 : ∀ a i, hP a i → ¬ (39 ≤ a ∧ a ≤ 41) := fun a i z => by unfold hP lP tP dP at z; omega
theorem hPn : ¬ hP 28 0 := fun z => by unfold hP lP tP dP at z; omega
theorem hP0 : ∀ a i, hP a i → ¬ lP 0 a i := fun a i z y => by unfold hP lP tP dP at z; unfold lP tP dP at y; omega
theorem hPsc {M M' : Mem} (f : YF hP M M') : YF scP M M' := f.wk (fun a i z => z.elim (fun y => Or.inl y) (fun y => Or.inr (Or.inr y)))
theorem lh {M M' : Mem} (f : YF (lP 1) M M') : YF hP M M' := f.wk (fun _ _ z => Or.inl z)
/-- whether a row is met by the palms behind k minutes -/
def mtQ (T : TP) (m : Nat) (pm : Nat → Int32 × Nat) (ra rc rh : Nat → Nat) (k : Nat) : Nat → Bool := fun i => decide (ra i = k ∧ hrs T.hF T.gF (rc i) m (pm (rc i)) k = rh i)
def mtP (T : TP) (m : Nat) (pm : Nat → Int32 × Nat) (ra rc rh : Nat → Nat) (k : Nat) : Nat → Bool := fun i => decide (ra i < k ∧ hrs T.hF T.gF (rc i) m (pm (rc i)) (ra i) = rh i)
theorem mt_add {T : TP} {m k n : Nat} {pm : Nat → Int32 × Nat} {ra rc rh : Nat → Nat} : cnt (mtP T m pm ra rc rh k) n + cnt (mtQ T m pm ra rc rh k) n = cnt (mtP T m pm ra rc rh (k + 1)) n := by
  refine cnt_add n (fun i _ => ?_)
  unfold mtP mtQ b01
  by_cases z : ra i < k
  · have e1 : ¬ ra i = k := by omega
    by_cases y : hrs T.hF T.gF (rc i) m (pm (rc i)) (ra i) = rh i
    · rw [if_pos (decide_eq_true ⟨z, y⟩), if_neg (fun u => e1 (of_decide_eq_true u).1), if_pos (decide_eq_true ⟨by omega, y⟩)]
    · rw [if_neg (fun u => y (of_decide_eq_true u).2), if_neg (fun u => e1 (of_decide_eq_true u).1), if_neg (fun u => y (of_decide_eq_true u).2)]
  · by_cases e1 : ra i = k
    · by_cases y : hrs T.hF T.gF (rc i) m (pm (rc i)) (ra i) = rh i
      · rw [if_neg (fun u => z (of_decide_eq_true u).1), if_pos (decide_eq_true ⟨e1, by rw [← e1]; exact y⟩), if_pos (decide_eq_true ⟨by omega, y⟩)]
      · rw [if_neg (fun u => z (of_decide_eq_true u).1), if_neg (fun u => y (by rw [e1]; exact (of_decide_eq_true u).2)), if_neg (fun u => y (of_decide_eq_true u).2)]
    · rw [if_neg (fun u => z (of_decide_eq_true u).1), if_neg (fun u => e1 (of_decide_eq_true u).1), if_neg (fun u => by have := (of_decide_eq_true u).1; omega)]
abbrev yb71 (n0 : Nat) (k4 : Int32 → Int32 → Int32 → Mem → Option (Int32 × Mem)) (k36 : Int32 → Int32 → Int32 → Int32 → Int32 → Mem → Option (Int32 × Mem)) : Nat → Int32 → Int32 → Int32 → Int32 → Int32 → Int32 → Mem → Option (Int32 × Mem) := loopN (bX12_heldBits_71 n0 k4 k36) (fun _ _ _ _ _ _ _ => none)
theorem yh71 {n0 b m k n : Nat} {T : TP} {pm : Nat → Int32 × Nat} {s : Nat × List (Nat × Nat)} {ra rc rh : Nat → Nat} {k4 : Int32 → Int32 → Int32 → Mem → Option (Int32 × Mem)} {k36 : Int32 → Int32 → Int32 → Int32 → Int32 → Mem → Option (Int32 × Mem)} {x1 x2 x3 : Int32} (hn : 1700 ≤ n0) (hO : PsO T.nt T.nc pm) (hs : sOk T.nd s) (hm : m + k ≤ 9999) (hk40 : k ≤ 40) :
    ∀ w i met M, i ≤ n → n < w + i → YT n0 b T M → LyD 1 T.nc (m + k) (trP T m pm k) s M → YRw n T.nc ra rc rh M → met ≤ 1000 →
    ∃ M', yb71 n0 k4 k36 w x1 x2 x3 (nI (met + cnt (mtQ T m pm ra rc rh k) i)) (nI k) (nI i) M = k36 x1 x2 x3 (nI (met + cnt (mtQ T m pm ra rc rh k) n)) (nI (k + 1)) M' ∧ LyD 1 T.nc (m + k + 1) (trP T m pm (k + 1)) s M' ∧ YF (lP 1) M M'
  | 0, i, met, M, hi, hw, _, _, _, _ => by omega
  | w + 1, i, met, M, hi, hw, hY, hL, hR, hmet => by
    show ∃ M', bX12_heldBits_71 n0 k4 k36 (yb71 n0 k4 k36 w) x1 x2 x3 _ (nI k) (nI i) M = _ ∧ _
    have h16 := hR.1
    have h5 := hY.2.1.2.1
    have hl := hs.l
    have ci := cnt_le (mtQ T m pm ra rc rh k) i
    unfold bX12_heldBits_71
    by_cases g : i = n
    · subst g
      obtain ⟨M1, g1, g2, g3⟩ := ytickD (v := 1) hn hY (by decide) hL (trP_ok hO k) hs (by omega)
      refine ⟨M1, eq_t (by rw [hR.2.1]; exact Int32.le_refl _) (eq_b g1 ?_), g2, g3⟩
      rw [show nI k + 1 = nI (k + 1) from nI_add k 1]
    · have cii : (nI i).toNatClampNeg = i := nI_clamp (by omega)
      obtain ⟨r1, r2, r3, r4, r5, r6⟩ := hR.2.2 i (by omega)
      have st : ¬ gI M 61 ≤ nI i := by rw [hR.2.1]; exact nI_ge (by omega) (by omega)
      have oi : ¬ oob (nI i) 16 := nI_in (by omega) (by decide)
      have k1 : nI i + 1 = nI (i + 1) := nI_add i 1
      have step : cnt (mtQ T m pm ra rc rh k) (i + 1) = cnt (mtQ T m pm ra rc rh k) i + b01 (mtQ T m pm ra rc rh k i) := rfl
      have nxt : ∀ M2 u1, YF (lP 1) M M2 → LyD 1 T.nc (m + k) (trP T m pm k) s M2 → u1 = nI (b01 (mtQ T m pm ra rc rh k i)) → ∃ M', fX12_heldBits_121 n0 k4 k36 (yb71 n0 k4 k36 w) x1 x2 x3 (nI k) (nI i) (nI (met + cnt (mtQ T m pm ra rc rh k) i)) u1 M2 = k36 x1 x2 x3 (nI (met + cnt (mtQ T m pm ra rc rh k) n)) (nI (k + 1)) M' ∧ LyD 1 T.nc (m + k + 1) (trP T m pm (k + 1)) s M' ∧ YF (lP 1) M M' := fun M2 u1 f2 L2 e => by
        obtain ⟨M', p1, p2, p3⟩ := yh71 (k4 := k4) (k36 := k36) (x1 := x1) (x2 := x2) (x3 := x3) hn hO hs hm hk40 w (i + 1) met M2 (by omega) (by omega) (hY.yf f2 lP28) L2 (hR.fr f2 (fun a i z => by unfold lP tP dP at z; omega)) hmet
        refine ⟨M', ?_, p2, f2.tr p3⟩
        unfold fX12_heldBits_121
        refine eq_e (v' := nI (met + cnt (mtQ T m pm ra rc rh k) (i + 1))) ?_ ?_
        · rw [e, nI_add, step, Nat.add_assoc]
        · rw [k1]; exact p1
      by_cases z : ra i = k
      · obtain ⟨l1, M1, e1, e2⟩ := yhr hY (v := 1) (by decide) hL.1 (trP_ok hO k) (by omega) r2
        have L1 : LyD 1 T.nc (m + k) (trP T m pm k) s M1 := LyD.fr (P := fun _ _ => False) hL e2.y h5 (by omega) (fun _ _ z => z.elim)
        have a41 : gA M1 41 (nI i).toNatClampNeg = nI (rh i) := by rw [cii, e2.2.2.2.1 41 (by decide)]; exact r6
        have hq : T.hF (rc i) (trP T m pm k (rc i)).1 (trP T m pm k (rc i)).2 (m + k) = hrs T.hF T.gF (rc i) m (pm (rc i)) k := rfl
        rw [hq] at l1 e1
        by_cases y : hrs T.hF T.gF (rc i) m (pm (rc i)) k = rh i
        · obtain ⟨M', p1, p2, p3⟩ := nxt M1 1 e2.y L1 (by
            rw [show mtQ T m pm ra rc rh k i = true from decide_eq_true ⟨z, y⟩]
            rfl)
          exact ⟨M', eq_f st (eq_f oi (eq_t (by rw [cii, r4, z]) (eq_f oi (eq_b (by rw [cii, r5]; exact e1) (eq_f oi (eq_t (by rw [a41]; exact congrArg nI y) p1)))))), p2, p3⟩
        · obtain ⟨M', p1, p2, p3⟩ := nxt M1 0 e2.y L1 (by
            rw [show mtQ T m pm ra rc rh k i = false from decide_eq_false (fun u => y u.2)]
            rfl)
          refine ⟨M', eq_f st (eq_f oi (eq_t (by rw [cii, r4, z]) (eq_f oi (eq_b (by rw [cii, r5]; exact e1) (eq_f oi (eq_f (by rw [a41]; exact fun u => y ((nI_eq (by omega) (by omega)).mp u)) ?_)))))), p2, p3⟩
          unfold fX12_heldBits_120
          exact p1
      · obtain ⟨M', p1, p2, p3⟩ := nxt M 0 YF.r hL (by
          rw [show mtQ T m pm ra rc rh k i = false from decide_eq_false (fun u => z u.1)]
          rfl)
        refine ⟨M', eq_f st (eq_f oi (eq_f (by rw [cii, r4]; exact fun u => z ((nI_eq (by omega) (by omega)).mp u)) ?_)), p2, p3⟩
        unfold fX12_heldBits_120
        exact p1
theorem y41Ix (u k : Nat) : (41 : Int32) * nI u + nI k = nI (41 * u + k) := by
  rw [show (41 : Int32) = nI 41 from rfl, nI_mul, nI_add]
abbrev yb36 (n0 : Nat) (k4 : Int32 → Int32 → Int32 → Mem → Option (Int32 × Mem)) : Nat → Int32 → Int32 → Int32 → Int32 → Int32 → Mem → Option (Int32 × Mem) := loopN (bX12_heldBits_36 n0 k4) (fun _ _ _ _ _ _ => none)
theorem yh36 {n0 b c m n u : Nat} {T : TP} {pm : Nat → Int32 × Nat} {s : Nat × List (Nat × Nat)} {ra rc rh : Nat → Nat} {k4 : Int32 → Int32 → Int32 → Mem → Option (Int32 × Mem)} {x2 : Int32} (hn : 1700 ≤ n0) (hc : c < T.nc) (hu : u ≤ 6) (hO : PsO T.nt T.nc pm) (hs : sOk T.nd s) (hm : m ≤ 9999) :
    ∀ w k M, k ≤ min 40 (9999 - m) + 1 → min 40 (9999 - m) + 1 < w + k → YT n0 b T M → LyD 1 T.nc (m + k) (trP T m pm k) s M → YRw n T.nc ra rc rh M → gA M 28 0 = nI m →
    ∃ M', yb36 n0 k4 w (nI c) x2 (thI u) (nI (cnt (mtP T m pm ra rc rh k) n)) (nI k) M = fX12_heldBits_160 n0 k4 (nI c) (thI u) x2 (if cnt (mtP T m pm ra rc rh (min 40 (9999 - m) + 1)) n = n then (1 : Int32) <<< (nI u &&& 31) else 0) M' ∧ (∀ j, k ≤ j → j ≤ min 40 (9999 - m) → gA M' 42 (41 * u + j) = nI (hrs T.hF T.gF c m (pm c) j)) ∧ (∀ i, ¬ (41 * u + k ≤ i ∧ i < 41 * u + 41) → gA M' 42 i = gA M 42 i) ∧ YF hP M M'
  | 0, k, M, hk, hw, _, _, _, _ => by omega
  | w + 1, k, M, hk, hw, hY, hL, hR, h28 => by
    show ∃ M', bX12_heldBits_36 n0 k4 (yb36 n0 k4 w) (nI c) x2 (thI u) _ (nI k) M = _ ∧ _
    have h16 := hR.1
    have h5 := hY.2.1.2.1
    have hl := hs.l
    unfold bX12_heldBits_36
    by_cases g : k = min 40 (9999 - m) + 1
    · have a0 := yahF (n0 := n0) (lo := 0) (hi := 40) (k := k) h28 hm (by decide) (by decide) (by omega) (by omega)
      have cl := cnt_le (mtP T m pm ra rc rh k) n
      refine ⟨M, eq_b a0 (eq_t rfl ?_), fun j h1 h2 => by omega, fun _ _ => rfl, YF.r⟩
      rw [← g]
      by_cases z : cnt (mtP T m pm ra rc rh k) n = n
      · rw [if_pos z, thI_1]
        exact eq_t (by show nI _ = gI M 61; rw [hR.2.1, z]) rfl
      · rw [if_neg z]
        exact eq_f (by show ¬ nI _ = gI M 61; rw [hR.2.1]; exact fun y => z ((nI_eq (by omega) (by omega)).mp y)) rfl
    · have a1 := yahT (n0 := n0) (lo := 0) (hi := 40) (k := k) h28 (by omega) (by omega) (by decide) (by omega)
      obtain ⟨l1, M1, e1, e2⟩ := yhr hY (v := 1) (by decide) hL.1 (trP_ok hO k) (by omega) hc
      have ev : T.hF c (trP T m pm k c).1 (trP T m pm k c).2 (m + k) = hrs T.hF T.gF c m (pm c) k := rfl
      rw [ev] at e1 l1
      have hM2 : ∃ M2, M2 = sA M1 42 (41 * u + k) (nI (hrs T.hF T.gF c m (pm c) k)) := ⟨_, rfl⟩
      obtain ⟨M2, eM⟩ := hM2
      have f2 : YF hP M M2 := by rw [eM]; exact YF.a (e2.y) (Or.inr rfl)
      have L2 : LyD 1 T.nc (m + k) (trP T m pm k) s M2 := LyD.fr (P := fun a i => a = 42) hL (by rw [eM]; exact YF.a (e2.y) rfl) h5 (by omega) (fun a i z y => by unfold lP tP dP at y; omega)
      obtain ⟨M3, p1, p2, p3⟩ := yh71 (n0 := n0) (b := b) (n := n) (ra := ra) (rc := rc) (rh := rh) (k4 := k4) (k36 := yb36 n0 k4 w) (x1 := nI c) (x2 := x2) (x3 := thI u) hn hO hs (show m + k ≤ 9999 by omega) (by omega) n0 0 (cnt (mtP T m pm ra rc rh k) n) M2 (by omega) (by omega) (hY.yf f2 hP28) L2 (hR.fr f2 hP39) (by have := cnt_le (mtP T m pm ra rc rh k) n; omega)
      rw [mt_add] at p1
      have f3 : YF hP M M3 := f2.tr (lh p3)
      have a42 : ∀ i, gA M3 42 i = gA M2 42 i := fun i => p3.2.2.2.1 42 i (by decide) (fun z => by unfold lP tP dP at z; omega)
      have b42 : ∀ i, gA M1 42 i = gA M 42 i := fun i => by rw [e2.2.2.2.1 42 (by decide)]
      obtain ⟨M', r1, r2, r3, r4⟩ := yh36 (k4 := k4) (x2 := x2) hn hc hu hO hs hm w (k + 1) M3 (by omega) (by omega) (hY.yf f3 hP28) p2 (hR.fr f3 hP39) (m28f h28 f3 hPn)
      refine ⟨M', ?_, fun j h1 h2 => ?_, fun i z => ?_, f3.tr r4⟩
      · refine eq_b a1 (eq_f (show ¬ (1 : Int32) = 0 by decide) (eq_b e1 ?_))
        rw [thI_1, y41Ix]
        refine eq_f (nI_in (by omega) (by decide)) (eq_e (v' := M2) ?_ (Eq.trans p1 r1))
        rw [nI_clamp (by omega), eM]
      · by_cases z : j = k
        · rw [z, r3 _ (by omega), a42, eM, gA_sA, if_pos rfl, if_pos rfl]
        · exact r2 j (by omega) h2
      · rw [r3 i (by omega), a42, eM, gA_sA, if_pos rfl, if_neg (by omega), b42]
abbrev yb4 (n0 : Nat) : Nat → Int32 → Int32 → Int32 → Mem → Option (Int32 × Mem) := loopN (bX12_heldBits_4 n0) (fun _ _ _ _ => none)
/-- all rows are met with the thing of choice u -/
def metB (T : TP) (m n c : Nat) (pm : Nat → Int32 × Nat) (ra rc rh : Nat → Nat) (u : Nat) : Bool := decide (cnt (mtP T m (upP pm c (thI u, 0)) ra rc rh (min 40 (9999 - m) + 1)) n = n)
theorem yh4 {n0 b c m n : Nat} {T : TP} {pm : Nat → Int32 × Nat} {s : Nat × List (Nat × Nat)} {ra rc rh : Nat → Nat} (hn : 1700 ≤ n0) (hc : c < T.nc) (hO : PsO T.nt T.nc pm) (hs : sOk T.nd s) (hm : m ≤ 9999) :
    ∀ w u M, u ≤ T.nt + 1 → T.nt + 1 < w + u → YT n0 b T M → LyD 0 T.nc m pm s M → YRw n T.nc ra rc rh M → (∀ v j, v < u → j ≤ min 40 (9999 - m) → gA M 42 (41 * v + j) = nI (hby T c m v j)) →
    ∃ M', yb4 n0 w (nI c) (nI (Dn (fun v => b01 (metB T m n c pm ra rc rh v)) u)) (thI u) M = some (nI (Dn (fun v => b01 (metB T m n c pm ra rc rh v)) (T.nt + 1)), M') ∧ (∀ v j, v ≤ T.nt → j ≤ min 40 (9999 - m) → gA M' 42 (41 * v + j) = nI (hby T c m v j)) ∧ YF hP M M'
  | 0, u, M, hu, hw, _, _, _, _ => by omega
  | w + 1, u, M, hu, hw, hY, hL, hR, hB => by
    show ∃ M', bX12_heldBits_4 n0 (yb4 n0 w) (nI c) _ (thI u) M = _ ∧ _
    obtain ⟨o1, o2, o3, _⟩ := hY.2.1
    have hb := hY.2.2.1
    have hl := hs.l
    have o13 : ¬ oob (gI M 13) 2 := by rw [hY.2.2.2.1]; exact nI_in (by omega) (by decide)
    have yq : gA M 2 (gI M 13).toNatClampNeg = nI T.nt := by rw [hY.2.2.2.1, nI_clamp (by omega)]; exact hY.2.2.2.2.1
    unfold bX12_heldBits_4
    by_cases g : u = T.nt + 1
    · subst g
      exact ⟨M, eq_f o13 (eq_t (by rw [yq, ← thI_s]; exact Int32.le_refl _) rfl), fun v j hv hj => hB v j (by omega) hj, YF.r⟩
    · obtain ⟨M1, b1, b2, b3⟩ := ycopyD (n0 := n0) (v := 1) (u := 0) hn (by decide) (by decide) (by decide) o2 (by omega) hL
      obtain ⟨M2, c1, c2, c3⟩ := yput1 (n0 := n0) (t := thI u) b2 o2 hc
      have f2 : YF hP M M2 := lh (b3.tr c3)
      have PO := upP_ok (c := c) hO (show pOk T.nt (thI u, 0) from ⟨thI_ok (by omega), Nat.zero_le _⟩)
      have z0 : cnt (mtP T m (upP pm c (thI u, 0)) ra rc rh 0) n = 0 := by
        have : ∀ i, cnt (mtP T m (upP pm c (thI u, 0)) ra rc rh 0) i = 0 := fun i => by
          induction i with
          | zero => rfl
          | succ i ih =>
            show cnt _ i + b01 (mtP T m (upP pm c (thI u, 0)) ra rc rh 0 i) = 0
            rw [ih, show mtP T m (upP pm c (thI u, 0)) ra rc rh 0 i = false from decide_eq_false (fun z => by omega)]
            rfl
        exact this n
      obtain ⟨M3, p1, p2, p3, p4⟩ := yh36 (n0 := n0) (b := b) (c := c) (n := n) (u := u) (ra := ra) (rc := rc) (rh := rh) (k4 := yb4 n0 w) (x2 := nI (Dn (fun v => b01 (metB T m n c pm ra rc rh v)) u)) hn hc (by omega) PO hs hm n0 0 M2 (by omega) (by omega) (hY.yf f2 hP28) c2 (hR.fr f2 hP39) (m28f hL.1.1 f2 hPn)
      rw [z0] at p1
      have f3 : YF hP M M3 := f2.tr p4
      have L3 : LyD 0 T.nc m pm s M3 := hL.fr f3 o2 (by omega) hP0
      have D7 := Dn7 (f := fun v => b01 (metB T m n c pm ra rc rh v)) (fun d => b01_le _) u (by omega)
      have P7 := p128 (n := u) (by omega)
      have a42 : ∀ i, gA M2 42 i = gA M 42 i := fun i => (b3.tr c3).2.2.2.1 42 i (by decide) (fun z => by unfold lP tP dP at z; omega)
      obtain ⟨M', r1, r2, r3⟩ := yh4 (n := n) (ra := ra) (rc := rc) (rh := rh) hn hc hO hs hm w (u + 1) M3 (by omega) (by omega) (hY.yf f3 hP28) L3 (hR.fr f3 hP39) (fun v j hv hj => by
        by_cases z : v = u
        · rw [z, p2 j (by omega) hj, upP_at]
          rfl
        · rw [p3 _ (by omega), a42]
          exact hB v j (by omega) hj)
      refine ⟨M', eq_f o13 (eq_f (by rw [yq]; exact thI_lt (by omega) o1) (eq_b b1 (eq_b c1 (Eq.trans p1 ?_)))), r2, f3.tr r3⟩
      have step : Dn (fun v => b01 (metB T m n c pm ra rc rh v)) (u + 1) = Dn (fun v => b01 (metB T m n c pm ra rc rh v)) u + b01 (metB T m n c pm ra rc rh u) * 2 ^ u := rfl
      unfold fX12_heldBits_160
      refine eq_e (v' := nI (Dn (fun v => b01 (metB T m n c pm ra rc rh v)) (u + 1))) ?_ ?_
      · by_cases z : cnt (mtP T m (upP pm c (thI u, 0)) ra rc rh (min 40 (9999 - m) + 1)) n = n
        · rw [if_pos z, b7_or u (by omega) _ (by omega) D7.1, step, show metB T m n c pm ra rc rh u = true from decide_eq_true z]
          congr 2
          show 2 ^ u = 1 * 2 ^ u
          omega
        · rw [if_neg z, show (0 : Int32) = nI 0 from rfl, nOr, Nat.or_zero, step, show metB T m n c pm ra rc rh u = false from decide_eq_false z]
          congr 1
          show _ = _ + 0 * 2 ^ u
          omega
      · rw [thI_1, thI_s]
        exact r1
theorem met_iff {T : TP} {m n c u : Nat} {pm : Nat → Int32 × Nat} {ra rc rh : Nat → Nat} (hr : ∀ i, i < n → rc i < T.nc) : metB T m n c pm ra rc rh u = true ↔ ((∀ j, j < T.nc → ¬ j = c → soB n ra rc rh j (min 40 (9999 - m)) (hrs T.hF T.gF j m (pm j)) = true) ∧ soB n ra rc rh c (min 40 (9999 - m)) (hby T c m u) = true) := by
  unfold metB
  rw [decide_eq_true_iff, cnt_full]
  have ex : ∀ i, i < n → (mtP T m (upP pm c (thI u, 0)) ra rc rh (min 40 (9999 - m) + 1) i = true ↔ (ra i ≤ min 40 (9999 - m) ∧ hrs T.hF T.gF (rc i) m (upP pm c (thI u, 0) (rc i)) (ra i) = rh i)) := fun i _ => by
    unfold mtP
    rw [decide_eq_true_iff, Nat.lt_succ_iff]
  constructor
  · intro h
    refine ⟨fun j hj hne => soB_iff.mpr (fun i hi hrc => ?_), soB_iff.mpr (fun i hi hrc => ?_)⟩
    · have := (ex i hi).mp (h i hi)
      rw [hrc, show upP pm c (thI u, 0) j = pm j from if_neg hne] at this
      exact this
    · have := (ex i hi).mp (h i hi)
      rw [hrc, upP_at] at this
      exact this
  · intro h i hi
    refine (ex i hi).mpr ?_
    by_cases z : rc i = c
    · rw [z, upP_at]
      exact soB_iff.mp h.2 i hi z
    · rw [show upP pm c (thI u, 0) (rc i) = pm (rc i) from if_neg z]
      exact soB_iff.mp (h.1 (rc i) (hr i hi) z) i hi rfl
/-- what was held, as bits, on both sides; the hours by each thing -/
theorem held2 {n0 q b : Nat} {T : TP} {nr C m c : Nat} {pm : Nat → Int32 × Nat} {s : Nat × List (Nat × Nat)} {MX MY : Mem} (hn : 1700 ≤ n0) (h : RR n0 q b T nr C m pm s MX MY) (hc : c < T.nc) : ∃ D MX' MY', D < 2 ^ (T.nt + 1) ∧ fX11_findHeld n0 (nI c) MX = some (nI D, MX') ∧ fX12_heldBits n0 (nI c) MY = some (nI D, MY') ∧ XF hA MX MX' ∧ YF hP MY MY' ∧ (¬ D = 0 → ∀ v j, v ≤ T.nt → j ≤ min 40 (9999 - m) → gA MX' (83 + v) j = nI (hby T c m v j)) ∧ ∀ v j, v ≤ T.nt → j ≤ min 40 (9999 - m) → gA MY' 42 (41 * v + j) = nI (hby T c m v j) := by
  obtain ⟨h1, h2, h3, h4, h5, h6, h7⟩ := id h
  obtain ⟨o1, o2, o3, _⟩ := h1.2.2.2.1.2.1
  obtain ⟨n, ra, rc, rh, rX, rY⟩ := h6.rows o2
  obtain ⟨Y1, b1, b2, b3⟩ := yh4 (n0 := n0) (b := b) (n := n) (ra := ra) (rc := rc) (rh := rh) hn hc h2.2.1 h2.2.2 h2.1 n0 0 MY (by omega) (by omega) h1.2.2.2.2.1 h4 rY (fun v j hv => by omega)
  have Dl := (Dn7 (f := fun v => b01 (metB T m n c pm ra rc rh v)) (fun d => b01_le _) (T.nt + 1) (by omega)).1
  have hr : ∀ i, i < n → rc i < T.nc := fun i hi => (rX.2.2 i hi).2.1
  obtain ⟨X1, f1, r⟩ := xheld (n0 := n0) (n := n) (ra := ra) (rc := rc) (rh := rh) hn h1.2.2.2.2.1 hc h2.1 h2.2.1 h1.2.2.2.1 h3 h1.2.1 rX
  refine ⟨_, X1, Y1, Dl, ?_, b1, f1, b3, ?_, b2⟩
  · rcases r with ⟨r1, r2, r3⟩ | ⟨r1, j, j1, j2, j3⟩
    · rw [r1]
      congr 3
      refine Dn_congr _ (fun e _ => ?_)
      show b01 _ = b01 _
      by_cases z : soB n ra rc rh c (min 40 (9999 - m)) (hby T c m e) = true
      · rw [z, (met_iff hr).mpr ⟨r2, z⟩]
      · rw [show soB n ra rc rh c (min 40 (9999 - m)) (hby T c m e) = false by simpa using z, show metB T m n c pm ra rc rh e = false by
          by_cases y : metB T m n c pm ra rc rh e = true
          · exact absurd ((met_iff hr).mp y).2 z
          · simpa using y]
    · rw [r1, Dn_zero (f := fun v => b01 (metB T m n c pm ra rc rh v)) _ (fun e _ => by
        show b01 _ = 0
        by_cases y : metB T m n c pm ra rc rh e = true
        · exact absurd (((met_iff hr).mp y).1 j j1 j2) j3
        · exact if_neg y)]
      rfl
  · intro hD
    rcases r with ⟨r1, r2, r3⟩ | ⟨r1, j, j1, j2, j3⟩
    · exact r3
    · exact absurd (Dn_zero (f := fun v => b01 (metB T m n c pm ra rc rh v)) _ (fun e _ => by
        show b01 _ = 0
        by_cases y : metB T m n c pm ra rc rh e = true
        · exact absurd (((met_iff hr).mp y).1 j j1 j2) j3
        · exact if_neg y)) hD
theorem cHeld {n0 : Nat} {x : Int32} {MX MY : Mem} (hn : 1700 ≤ n0) (h : R n0 MX MY) : Cal n0 (fX11_held n0 x MX) (fX12_held n0 x MY) := by
  have h0 := h
  obtain ⟨q, b, T, nr, C, m, pm, s, h⟩ := h
  unfold fX11_held fX12_held
  rcases isCo h.1 x with ⟨c, hc, rfl, e1, e2⟩ | ⟨z, e1, e2⟩
  · obtain ⟨D, X1, Y1, d1, d2, d3, d4, d5, _⟩ := held2 hn h hc
    exact Cal.scr h (eq_b e1 (eq_f (show ¬ (1 : Int32) = 0 by decide) (eq_b d2 rfl))) (eq_b e2 (eq_f (show ¬ (1 : Int32) = 0 by decide) (eq_b d3 rfl))) (hAsc d4) (hPsc d5)
  · exact Cal.same (r := -1) h0 (eq_b e1 (eq_t rfl rfl)) (eq_b e2 (eq_t rfl rfl))
