section
/-! WHAT WAS HELD: the class -/
theorem b7_has : ∀ D, D < 128 → ∀ d, d < 7 → ((((nI D) >>> ((nI d) &&& 31)) &&& (1 : Int32) = 1) ↔ D / 2 ^ d % 2 = 1) := by decide +kernel
theorem b7_or : ∀ d, d < 7 → ∀ D, D < 128 → D < 2 ^ d → (nI D) ||| ((1 : Int32) <<< ((nI d) &&& 31)) = nI (D + 2 ^ d) := by decide +kernel
theorem b7_2 : ∀ d, d < 7 → ∀ D, D < 128 → D < 2 ^ d → ∀ v, v < 2 → D + v * 2 ^ d < 2 ^ (d + 1) := by decide +kernel
theorem b7_3 : ∀ d, d < 7 → ∀ D, D < 128 → D < 2 ^ d → ∀ v, v < 2 → (D + v * 2 ^ d) / 2 ^ d % 2 = v := by decide +kernel
theorem b7_4 : ∀ d, d < 7 → ∀ D, D < 128 → ∀ v, v < 2 → ∀ e, e < d → (D + v * 2 ^ d) / 2 ^ e % 2 = D / 2 ^ e % 2 := by decide +kernel
theorem p128 {n : Nat} (h : n ≤ 7) : 2 ^ n ≤ 128 := Nat.pow_le_pow_right (n := 2) (by decide) h
theorem Dn7 {f : Nat → Nat} (hf : ∀ d, f d ≤ 1) : ∀ d, d ≤ 7 → Dn f d < 2 ^ d ∧ ∀ e, e < d → Dn f d / 2 ^ e % 2 = f e
  | 0, _ => ⟨Nat.zero_lt_one, fun e he => by omega⟩
  | d + 1, hd => by
    obtain ⟨a1, a2⟩ := Dn7 hf d (by omega)
    have p := p128 (n := d) (by omega)
    have h1 := hf d
    refine ⟨b7_2 d (by omega) (Dn f d) (by omega) a1 (f d) (by omega), fun e he => ?_⟩
    by_cases z : e = d
    · rw [z]; exact b7_3 d (by omega) (Dn f d) (by omega) a1 (f d) (by omega)
    · exact (b7_4 d (by omega) (Dn f d) (by omega) (f d) (by omega) e (by omega)).trans (a2 e (by omega))
theorem Dn_congr {f g : Nat → Nat} : ∀ d, (∀ e, e < d → f e = g e) → Dn f d = Dn g d
  | 0, _ => rfl
  | d + 1, h => by
    show Dn f d + f d * 2 ^ d = Dn g d + g d * 2 ^ d
    rw [Dn_congr d (fun e he => h e (by omega)), h d (by omega)]
theorem Dn_zero {f : Nat → Nat} : ∀ d, (∀ e, e < d → f e = 0) → Dn f d = 0
  | 0, _ => rfl
  | d + 1, h => by
    show Dn f d + f d * 2 ^ d = 0
    rw [Dn_zero d (fun e he => h e (by omega)), h d (by omega), Nat.zero_mul]
/-- the thing of a choice: none, then things by numbers -/
def thI (u : Nat) : Int32 := if u = 0 then -1 else nI (u - 1)
theorem thI_1 (u : Nat) : thI u + 1 = nI u := by
  unfold thI
  by_cases g : u = 0
  · rw [if_pos g, g]; decide
  · rw [if_neg g, show nI (u - 1) + 1 = nI (u - 1 + 1) from nI_add _ 1, show u - 1 + 1 = u by omega]
theorem thI_s (u : Nat) : nI u = thI (u + 1) := by
  unfold thI
  rw [if_neg (by omega), Nat.add_sub_cancel]
theorem thI_ok {nt u : Nat} (h : u ≤ nt) : tOk nt (thI u) := by
  unfold thI
  by_cases g : u = 0
  · rw [if_pos g]; exact Or.inl rfl
  · rw [if_neg g]; exact Or.inr ⟨u - 1, by omega, rfl⟩
theorem thI_lt {nt u : Nat} (h : u ≤ nt) (hn : nt ≤ 6) : ¬ nI nt ≤ thI u := by
  unfold thI
  by_cases g : u = 0
  · rw [if_pos g, i_le, nI_toInt (by omega), show (-1 : Int32).toInt = -1 from rfl]
    omega
  · rw [if_neg g]
    exact nI_ge (by omega) (by omega)
def b01 (p : Bool) : Nat := if p = true then 1 else 0
theorem b01_le (p : Bool) : b01 p ≤ 1 := by cases p <;> decide
/-- rows seen that tell of a corner are so, by these hours up to the last minute -/
def soB (n : Nat) (ra rc rh : Nat → Nat) (o last : Nat) (f : Nat → Nat) : Bool := (List.range n).all (fun i => decide (rc i = o → ra i ≤ last ∧ f (ra i) = rh i))
theorem soB_iff {n : Nat} {ra rc rh : Nat → Nat} {o last : Nat} {f : Nat → Nat} : soB n ra rc rh o last f = true ↔ ∀ i, i < n → rc i = o → ra i ≤ last ∧ f (ra i) = rh i := by
  unfold soB
  rw [List.all_eq_true]
  constructor
  · intro h i hi
    exact of_decide_eq_true (h i (List.mem_range.mpr hi))
  · intro h i hi
    exact decide_eq_true (h i (List.mem_range.mp hi))
def XRw (n nc : Nat) (ra rc rh : Nat → Nat) (M : Mem) : Prop := n ≤ 16 ∧ gI M 2688 = nI n ∧ ∀ k, k < n → ra k ≤ 40 ∧ rc k < nc ∧ rh k ≤ 23 ∧ gA M 22 k = nI (ra k) ∧ gA M 23 k = nI (rc k) ∧ gA M 24 k = nI (rh k)
def YRw (n nc : Nat) (ra rc rh : Nat → Nat) (M : Mem) : Prop := n ≤ 16 ∧ gI M 61 = nI n ∧ ∀ k, k < n → ra k ≤ 40 ∧ rc k < nc ∧ rh k ≤ 23 ∧ gA M 39 k = nI (ra k) ∧ gA M 40 k = nI (rc k) ∧ gA M 41 k = nI (rh k)
theorem XRw.fr {n nc : Nat} {ra rc rh : Nat → Nat} {A : Nat → Prop} {M M' : Mem} (h : XRw n nc ra rc rh M) (f : XF A M M') (hA : ∀ a, A a → ¬ (22 ≤ a ∧ a ≤ 24)) : XRw n nc ra rc rh M' := ⟨h.1, (f.2.2.2.2 2688 (by decide)).trans h.2.1, fun k hk => by
  rw [f.gA (a := 22) (fun z => hA 22 z (by decide)) (by decide), f.gA (a := 23) (fun z => hA 23 z (by decide)) (by decide), f.gA (a := 24) (fun z => hA 24 z (by decide)) (by decide)]
  exact h.2.2 k hk⟩
theorem RN.rows {nc : Nat} {MX MY : Mem} (h : RN nc MX MY) (h5 : nc ≤ 5) : ∃ n ra rc rh, XRw n nc ra rc rh MX ∧ YRw n nc ra rc rh MY := by
  obtain ⟨n, n1, n2, n3, n4⟩ := h
  refine ⟨n, fun k => (gA MX 22 k).toNatClampNeg, fun k => (gA MX 23 k).toNatClampNeg, fun k => (gA MX 24 k).toNatClampNeg, ⟨n1, n2, fun k hk => ?_⟩, ⟨n1, n3, fun k hk => ?_⟩⟩
  · obtain ⟨a, c, h, a1, a2, a3, a4, a5, a6, a7, a8, a9⟩ := n4 k hk
    dsimp only
    rw [a4, a6, a8, nI_clamp (by omega), nI_clamp (by omega), nI_clamp (by omega)]
    exact ⟨a1, a2, a3, rfl, rfl, rfl⟩
  · obtain ⟨a, c, h, a1, a2, a3, a4, a5, a6, a7, a8, a9⟩ := n4 k hk
    dsimp only
    rw [a4, a6, a8, a5, a7, a9, nI_clamp (by omega), nI_clamp (by omega), nI_clamp (by omega)]
    exact ⟨a1, a2, a3, rfl, rfl, rfl⟩
abbrev xabL (n0 : Nat) : Nat → Int32 → Int32 → Mem → Option (Int32 × Mem) := loopN (bX5_isAbout_2 n0) (fun _ _ _ => none)
theorem xabout {n0 n nc o : Nat} {ra rc rh : Nat → Nat} {M : Mem} (hR : XRw n nc ra rc rh M) (h5 : nc ≤ 5) (ho : o < 5) : ∀ w i, i ≤ n → n < w + i → (∀ j, j < i → ¬ rc j = o) → (xabL n0 w (nI o) (nI i) M = some (1, M)) ∨ (xabL n0 w (nI o) (nI i) M = some (0, M) ∧ ∀ j, j < n → ¬ rc j = o)
  | 0, i, hi, hw, _ => by omega
  | w + 1, i, hi, hw, hj => by
    show (bX5_isAbout_2 n0 (xabL n0 w) (nI o) (nI i) M = _) ∨ (bX5_isAbout_2 n0 (xabL n0 w) (nI o) (nI i) M = _ ∧ _)
    have h16 := hR.1
    unfold bX5_isAbout_2
    by_cases g : i = n
    · exact Or.inr ⟨eq_t (by rw [hR.2.1, g]; exact Int32.le_refl _) rfl, fun j hjn => hj j (by omega)⟩
    · have ci : (nI i).toNatClampNeg = i := nI_clamp (by omega)
      obtain ⟨r1, r2, r3, r4, r5, r6⟩ := hR.2.2 i (by omega)
      have st : ¬ gI M 2688 ≤ nI i := by rw [hR.2.1]; exact nI_ge (by omega) (by omega)
      have oi : ¬ oob (nI i) 16 := nI_in (by omega) (by decide)
      by_cases z : rc i = o
      · exact Or.inl (eq_f st (eq_f oi (eq_t (by rw [ci, r5, z]) rfl)))
      · have k1 : nI i + 1 = nI (i + 1) := nI_add i 1
        rcases xabout hR h5 ho w (i + 1) (by omega) (by omega) (fun j hj2 => by
          by_cases y : j = i
          · rw [y]; exact z
          · exact hj j (by omega)) with r | ⟨r, s⟩
        · exact Or.inl (eq_f st (eq_f oi (eq_f (by rw [ci, r5]; exact fun y => z ((nI_eq (by omega) (by omega)).mp y)) (by rw [k1]; exact r))))
        · exact Or.inr ⟨eq_f st (eq_f oi (eq_f (by rw [ci, r5]; exact fun y => z ((nI_eq (by omega) (by omega)).mp y)) (by rw [k1]; exact r))), s⟩
abbrev xsoL (n0 : Nat) : Nat → Int32 → Int32 → Int32 → Mem → Option (Int32 × Mem) := loopN (bX5_isSo_3 n0 26) (fun _ _ _ _ => none)
theorem xso {n0 n nc o last : Nat} {ra rc rh : Nat → Nat} {f : Nat → Nat} {M : Mem} (hR : XRw n nc ra rc rh M) (h5 : nc ≤ 5) (ho : o < 5) (hl : last ≤ 40) (hf : ∀ j, j ≤ last → gA M 26 j = nI (f j) ∧ f j ≤ 23) : ∀ w i, i ≤ n → n < w + i → (∀ j, j < i → rc j = o → ra j ≤ last ∧ f (ra j) = rh j) → xsoL n0 w (nI o) (nI last) (nI i) M = some (bI (soB n ra rc rh o last f = true), M)
  | 0, i, hi, hw, _ => by omega
  | w + 1, i, hi, hw, hj => by
    show bX5_isSo_3 n0 26 (xsoL n0 w) (nI o) (nI last) (nI i) M = _
    have h16 := hR.1
    have ln26 : LX.ln 26 = 61 := rfl
    unfold bX5_isSo_3
    by_cases g : i = n
    · rw [bI_t (soB_iff.mpr (fun j hjn => hj j (by omega)))]
      exact eq_t (by rw [hR.2.1, g]; exact Int32.le_refl _) rfl
    · have ci : (nI i).toNatClampNeg = i := nI_clamp (by omega)
      obtain ⟨r1, r2, r3, r4, r5, r6⟩ := hR.2.2 i (by omega)
      have st : ¬ gI M 2688 ≤ nI i := by rw [hR.2.1]; exact nI_ge (by omega) (by omega)
      have oi : ¬ oob (nI i) 16 := nI_in (by omega) (by decide)
      have k1 : nI i + 1 = nI (i + 1) := nI_add i 1
      have a22 : gA M 22 (nI i).toNatClampNeg = nI (ra i) := by rw [ci, r4]
      have a23 : gA M 23 (nI i).toNatClampNeg = nI (rc i) := by rw [ci, r5]
      have a24 : gA M 24 (nI i).toNatClampNeg = nI (rh i) := by rw [ci, r6]
      have bad : ¬ (rc i = o → ra i ≤ last ∧ f (ra i) = rh i) → bI (soB n ra rc rh o last f = true) = 0 := fun z => bI_f (fun y => z (soB_iff.mp y i (by omega)))
      have nxt : (rc i = o → ra i ≤ last ∧ f (ra i) = rh i) → fX5_isSo_79 n0 26 (xsoL n0 w) (nI o) (nI last) (nI i) M = some (bI (soB n ra rc rh o last f = true), M) := fun z => by
        unfold fX5_isSo_79
        rw [k1]
        exact xso hR h5 ho hl hf w (i + 1) (by omega) (by omega) (fun j hj2 => by
          by_cases y : j = i
          · rw [y]; exact z
          · exact hj j (by omega))
      by_cases z : rc i = o
      · refine eq_f st (eq_f oi (eq_t (by rw [a23, z]) (eq_f oi ?_)))
        by_cases y : ra i ≤ last
        · have e1 : ¬ nI last < gA M 22 (nI i).toNatClampNeg := by rw [a22]; exact fun u => by have := (nI_ltI (by omega) (by omega)).mp u; omega
          have e2 : ¬ Int32.ofNat (LX.ln 26) ≤ gA M 22 (nI i).toNatClampNeg := by rw [a22, ln26]; exact nI_ge (b := 61) (by omega) (by decide)
          have e3 : gA M 26 (gA M 22 (nI i).toNatClampNeg).toNatClampNeg = nI (f (ra i)) := by rw [a22, nI_clamp (by omega)]; exact (hf _ y).1
          have e4 := (hf _ y).2
          refine eq_f e1 (eq_f oi (eq_f e2 ?_))
          unfold fX5_isSo_51
          refine eq_f (by decide) (eq_f oi (eq_f (by rw [a22, ln26]; exact nI_in (by omega) (by decide)) (eq_f oi ?_)))
          by_cases x : f (ra i) = rh i
          · exact eq_t (by rw [e3, a24, x]) (nxt (fun _ => ⟨y, x⟩))
          · rw [bad (fun u => x (u z).2)]
            exact eq_f (by rw [e3, a24]; exact fun u => x ((nI_eq (by omega) (by omega)).mp u)) rfl
        · rw [bad (fun u => y (u z).1)]
          refine eq_t (by rw [a22]; exact nI_lt (by omega) (by omega)) ?_
          unfold fX5_isSo_50 fX5_isSo_51
          exact eq_t rfl rfl
      · exact eq_f st (eq_f oi (eq_f (by rw [a23]; exact fun y => z ((nI_eq (by omega) (by omega)).mp y)) (nxt (fun u => absurd u z))))
theorem ln83 : ∀ j, j < 7 → LX.ln (83 + j) = 41 := by decide +kernel
abbrev xnL (n0 : Nat) : Nat → Int32 → Int32 → Int32 → Mem → Option Mem := loopN (bX5_noteHours_14 n0 26) (fun _ _ _ _ => none)
theorem xnote {n0 u last : Nat} (hu : u < 7) (hl : last ≤ 40) : ∀ w k M, k ≤ last + 1 → last + 1 < w + k → ∃ M', xnL n0 w (nI u) (nI last) (nI k) M = some M' ∧ (∀ j, k ≤ j → j ≤ last → gA M' (83 + u) j = gA M 26 j) ∧ gR M' = gR M ∧ gL M' = gL M ∧ gB M' = gB M ∧ gI M' = gI M ∧ ∀ a i, ¬ (a = 83 + u ∧ k ≤ i) → gA M' a i = gA M a i
  | 0, k, M, hk, hw => by omega
  | w + 1, k, M, hk, hw => by
    show ∃ M', bX5_noteHours_14 n0 26 (xnL n0 w) (nI u) (nI last) (nI k) M = _ ∧ _
    have ln26 : LX.ln 26 = 61 := rfl
    unfold bX5_noteHours_14
    by_cases g : k = last + 1
    · exact ⟨M, eq_t (nI_lt (by omega) (by omega)) rfl, fun j h1 h2 => by omega, rfl, rfl, rfl, rfl, fun _ _ _ => rfl⟩
    · have ck : (nI k).toNatClampNeg = k := nI_clamp (by omega)
      have cu : (nI u).toNatClampNeg = u := nI_clamp (by omega)
      obtain ⟨M', r1, r2, r3, r4, r5, r6, r7⟩ := xnote (n0 := n0) hu hl w (k + 1) (sA M (83 + u) k (gA M 26 k)) (by omega) (by omega)
      refine ⟨M', eq_f (fun z => by have := (nI_ltI (by omega) (by omega)).mp z; omega) (eq_f (fun z => by have := (nI_ltI (a := 40) (by decide) (by omega)).mp z; omega) (eq_f (by rw [ln26]; exact nI_ge (b := 61) (by omega) (by decide)) (eq_f (nI_in hu (by decide)) (eq_f (by rw [ln26]; exact nI_in (by omega) (by decide)) (eq_f (by rw [cu, ln83 u hu]; exact nI_in (by omega) (by decide)) (eq_e (v' := sA M (83 + u) k (gA M 26 k)) (by rw [cu, ck]) ?_)))))), fun j h1 h2 => ?_, r3, r4, r5, r6, fun a i z => ?_⟩
      · rw [show nI k + 1 = nI (k + 1) from nI_add k 1]
        exact r1
      · by_cases h : j = k
        · rw [h, r7 (83 + u) k (by omega), gA_sA, if_pos rfl, if_pos rfl]
        · rw [r2 j (by omega) h2, gA_sA_ne (by omega)]
      · rw [r7 a i (by omega), gA_sA]
        by_cases h : a = 83 + u
        · rw [if_pos h, if_neg (by omega), h]
        · rw [if_neg h]
def hA (a : Nat) : Prop := a = 26 ∨ (83 ≤ a ∧ a < 90)
theorem hA31 : ∀ a, hA a → a < 31 ∨ 63 ≤ a := fun a z => by unfold hA at z; omega
theorem hAst : ∀ a, hA a → ¬ stA a := fun a z y => by unfold hA at z; unfold stA at y; omega
theorem hA22 : ∀ a, hA a → ¬ (22 ≤ a ∧ a ≤ 24) := fun a z => by unfold hA at z; omega
theorem hAsc {M M' : Mem} (f : XF hA M M') : XF scA M M' := f.wk (fun a z => by unfold hA at z; unfold scA; omega)
/-- the hours of a corner with the thing of each choice -/
def hby (T : TP) (c m u : Nat) : Nat → Nat := hrs T.hF T.gF c m (thI u, 0)
abbrev xhdL (n0 : Nat) : Nat → Int32 → Int32 → Int32 → Mem → Option (Int32 × Mem) := loopN (bX11_findHeld_69 n0) (fun _ _ _ _ => none)
theorem xhd69 {n0 q c m n : Nat} {T : TP} {pm : Nat → Int32 × Nat} {s : Nat × List (Nat × Nat)} {ra rc rh : Nat → Nat} (hn : 1700 ≤ n0) (hc : c < T.nc) (hm : m ≤ 9999) (h23 : ∀ u j, u ≤ T.nt → j ≤ min 40 (9999 - m) → hby T c m u j ≤ 23) :
    ∀ w u M, u ≤ T.nt + 1 → T.nt + 1 < w + u → XT n0 q T M → SX q T.nc T.nd m pm s M → gR M 1 = q → XRw n T.nc ra rc rh M → (∀ v j, v < u → j ≤ min 40 (9999 - m) → gA M (83 + v) j = nI (hby T c m v j)) →
    ∃ M', xhdL n0 w (nI c) (nI (Dn (fun v => b01 (soB n ra rc rh c (min 40 (9999 - m)) (hby T c m v))) u)) (thI u) M = some (nI (Dn (fun v => b01 (soB n ra rc rh c (min 40 (9999 - m)) (hby T c m v))) (T.nt + 1)), M') ∧ (∀ v j, v ≤ T.nt → j ≤ min 40 (9999 - m) → gA M' (83 + v) j = nI (hby T c m v j)) ∧ XF hA M M'
  | 0, u, M, hu, hw, _, _, _, _, _ => by omega
  | w + 1, u, M, hu, hw, hT, hS, hq, hR, hB => by
    show ∃ M', bX11_findHeld_69 n0 (xhdL n0 w) (nI c) _ (thI u) M = _ ∧ _
    obtain ⟨o1, o2, o3, _⟩ := hT.2.1
    have q1 : gI M (128 * gR M 1 + 1) = nI T.nt := by rw [hq]; exact hT.1.2.2.1
    unfold bX11_findHeld_69
    by_cases g : u = T.nt + 1
    · subst g
      exact ⟨M, eq_t (by rw [q1, ← thI_s]; exact Int32.le_refl _) rfl, fun v j hv hj => hB v j (by omega) hj, XF.r⟩
    · have tO : tOk T.nt (thI u) := thI_ok (by omega)
      have f1 : XF hA M (hld M (nI c) (thI u) (nI 0) (nI m)) := hld_f
      obtain ⟨M2, e1, e2, e3⟩ := xfor (n0 := n0) (q1 := 26) (most := 40) hn (hT.1.xf f1 hA31) (hld_p (h := 0) hS.1) (by omega) ⟨tO, Nat.zero_le _⟩ hm (by decide) (Or.inl rfl)
      have f2 : XF hA M M2 := f1.tr (e3.wk (fun a z => Or.inl z))
      obtain ⟨M3, d1, d2, d3, d4, d5, d6, d7⟩ := xnote (n0 := n0) (u := u) (last := min 40 (9999 - m)) (by omega) (by omega) n0 0 M2 (by omega) (by omega)
      have f3 : XF hA M2 M3 := ⟨d3, d4, d5, fun a z => by funext i; exact d7 a i (fun y => z (Or.inr (Or.inr (by unfold hA; omega)))), fun k _ => by rw [d6]⟩
      have f4 := f2.tr f3
      have R3 := hR.fr f4 hA22
      have a26 : gA M3 26 = gA M2 26 := by funext i; exact d7 26 i (by omega)
      have sv := xso (n0 := n0) (f := hby T c m u) R3 o2 (by omega : c < 5) (show min 40 (9999 - m) ≤ 40 by omega) (fun j hj => ⟨by rw [a26]; exact e2 j hj, h23 u j (by omega) hj⟩) n0 0 (by omega) (by have := R3.1; omega) (fun j hj => by omega)
      have b83 : ∀ v j, v < u + 1 → j ≤ min 40 (9999 - m) → gA M3 (83 + v) j = nI (hby T c m v j) := fun v j hv hj => by
        by_cases z : v = u
        · rw [z, d2 j (by omega) hj]
          exact e2 j hj
        · rw [d7 (83 + v) j (by omega), e3.gA (a := 83 + v) (by omega) (by omega)]
          exact hB v j (by omega) hj
      have D7 := Dn7 (f := fun v => b01 (soB n ra rc rh c (min 40 (9999 - m)) (hby T c m v))) (fun d => b01_le _) u (by omega)
      have P7 := p128 (n := u) (by omega)
      obtain ⟨M', r1, r2, r3⟩ := xhd69 (ra := ra) (rc := rc) (rh := rh) (n := n) hn hc hm h23 w (u + 1) M3 (by omega) (by omega) (hT.xf f4 hA31) (hS.fr f4 hAst) (by rw [f4.1]; exact hq) R3 b83
      refine ⟨M', ?_, r2, f4.tr r3⟩
      have tu : thI u + 1 = nI u := thI_1 u
      refine eq_f (by rw [q1]; exact thI_lt (by omega) o1) (eq_b (z := hld M (nI c) (thI u) (nI 0) (nI m)) (by rw [hS.2.2.1]; exact xhold) (eq_b e1 (eq_b (z := M3) ?_ (eq_b sv ?_))))
      · unfold fX5_noteHours
        rw [tu]
        exact eq_f (nI_nn (by omega)) (eq_t (nI_lt (b := 7) (by omega) (by decide)) d1)
      · have step : Dn (fun v => b01 (soB n ra rc rh c (min 40 (9999 - m)) (hby T c m v))) (u + 1) = Dn (fun v => b01 (soB n ra rc rh c (min 40 (9999 - m)) (hby T c m v))) u + b01 (soB n ra rc rh c (min 40 (9999 - m)) (hby T c m u)) * 2 ^ u := rfl
        by_cases z : soB n ra rc rh c (min 40 (9999 - m)) (hby T c m u) = true
        · refine eq_f (show ¬ bI (soB n ra rc rh c (min 40 (9999 - m)) (hby T c m u) = true) = 0 by rw [bI_t z]; decide) (eq_e (v' := nI (Dn (fun v => b01 (soB n ra rc rh c (min 40 (9999 - m)) (hby T c m v))) (u + 1))) ?_ ?_)
          · rw [tu, b7_or u (by omega) _ (by omega) D7.1, step, z]
            congr 2
            show 2 ^ u = 1 * 2 ^ u
            omega
          · unfold fX11_findHeld_153
            rw [tu, thI_s]
            exact r1
        · refine eq_t (show bI (soB n ra rc rh c (min 40 (9999 - m)) (hby T c m u) = true) = 0 from bI_f z) ?_
          unfold fX11_findHeld_153
          rw [tu, thI_s]
          have e0 : b01 (soB n ra rc rh c (min 40 (9999 - m)) (hby T c m u)) = 0 := if_neg z
          rw [step, e0, Nat.zero_mul, Nat.add_zero] at r1
          exact r1
abbrev xh2L (n0 : Nat) : Nat → Int32 → Int32 → Mem → Option (Int32 × Mem) := loopN (bX11_findHeld_2 n0) (fun _ _ _ => none)
theorem xhd2 {n0 q b c m n : Nat} {T : TP} {pm : Nat → Int32 × Nat} {s : Nat × List (Nat × Nat)} {ra rc rh : Nat → Nat} {MY : Mem} (hn : 1700 ≤ n0) (hY : YT n0 b T MY) (hc : c < T.nc) (hm : m ≤ 9999) (hO : PsO T.nt T.nc pm) :
    ∀ w o M, o ≤ T.nc → T.nc < w + o → XT n0 q T M → SX q T.nc T.nd m pm s M → gR M 1 = q → XRw n T.nc ra rc rh M → (∀ j, j < o → ¬ j = c → soB n ra rc rh j (min 40 (9999 - m)) (hrs T.hF T.gF j m (pm j)) = true) →
    ∃ M', XF hA M M' ∧ ((xh2L n0 w (nI c) (nI o) M = fX11_findHeld_69 n0 (nI c) 0 (-1) M' ∧ ∀ j, j < T.nc → ¬ j = c → soB n ra rc rh j (min 40 (9999 - m)) (hrs T.hF T.gF j m (pm j)) = true) ∨ (xh2L n0 w (nI c) (nI o) M = some (0, M') ∧ ∃ j, j < T.nc ∧ ¬ j = c ∧ ¬ soB n ra rc rh j (min 40 (9999 - m)) (hrs T.hF T.gF j m (pm j)) = true))
  | 0, o, M, ho, hw, _, _, _, _, _ => by omega
  | w + 1, o, M, ho, hw, hT, hS, hq, hR, hj => by
    show ∃ M', XF hA M M' ∧ ((bX11_findHeld_2 n0 (xh2L n0 w) (nI c) (nI o) M = _ ∧ _) ∨ (bX11_findHeld_2 n0 (xh2L n0 w) (nI c) (nI o) M = _ ∧ _))
    obtain ⟨o1, o2, o3, _⟩ := hT.2.1
    have q5 : gI M (128 * gR M 1 + 5) = nI T.nc := by rw [hq]; exact hT.2.2.1
    have k1 : nI o + 1 = nI (o + 1) := nI_add o 1
    unfold bX11_findHeld_2
    by_cases g : o = T.nc
    · exact ⟨M, XF.r, Or.inl ⟨eq_t (by rw [q5, g]; exact Int32.le_refl _) rfl, fun j hjn => hj j (by omega)⟩⟩
    · have st : ¬ gI M (128 * gR M 1 + 5) ≤ nI o := by rw [q5]; exact nI_ge (by omega) (by omega)
      have nxt : ∀ M2, XF hA M M2 → (¬ o = c → soB n ra rc rh o (min 40 (9999 - m)) (hrs T.hF T.gF o m (pm o)) = true) → ∃ M', XF hA M M' ∧ ((fX11_findHeld_59 n0 (xh2L n0 w) (nI c) (nI o) M2 = fX11_findHeld_69 n0 (nI c) 0 (-1) M' ∧ ∀ j, j < T.nc → ¬ j = c → soB n ra rc rh j (min 40 (9999 - m)) (hrs T.hF T.gF j m (pm j)) = true) ∨ (fX11_findHeld_59 n0 (xh2L n0 w) (nI c) (nI o) M2 = some (0, M') ∧ ∃ j, j < T.nc ∧ ¬ j = c ∧ ¬ soB n ra rc rh j (min 40 (9999 - m)) (hrs T.hF T.gF j m (pm j)) = true)) := fun M2 f2 z => by
        obtain ⟨M', r1, r2⟩ := xhd2 hn hY hc hm hO w (o + 1) M2 (by omega) (by omega) (hT.xf f2 hA31) (hS.fr f2 hAst) (by rw [f2.1]; exact hq) (hR.fr f2 hA22) (fun j hj2 hne => by
          by_cases y : j = o
          · rw [y]; exact z (by rw [← y]; exact hne)
          · exact hj j (by omega) hne)
        refine ⟨M', f2.tr r1, ?_⟩
        unfold fX11_findHeld_59
        rw [k1]
        exact r2
      by_cases z : o = c
      · obtain ⟨M', r1, r2⟩ := nxt M XF.r (fun y => absurd z y)
        refine ⟨M', r1, ?_⟩
        rcases r2 with ⟨s1, s2⟩ | ⟨s1, s2⟩
        · exact Or.inl ⟨eq_f st (eq_t (by rw [z]) s1), s2⟩
        · exact Or.inr ⟨eq_f st (eq_t (by rw [z]) s1), s2⟩
      · have hne : ¬ nI o = nI c := fun y => z ((nI_eq (by omega) (by omega)).mp y)
        rcases xabout (n0 := n0) hR o2 (show o < 5 by omega) n0 0 (by omega) (by have := hR.1; omega) (fun j hj => by omega) with e | ⟨e, e'⟩
        · obtain ⟨M2, a1, a2, a3⟩ := xfc (n0 := n0) (q1 := 26) (most := 40) hn hT hS hO (show o < T.nc by omega) hm (by decide) (Or.inl rfl)
          have f2 : XF hA M M2 := a3.wk (fun a y => Or.inl y)
          have sv := xso (n0 := n0) (f := hrs T.hF T.gF o m (pm o)) (hR.fr f2 hA22) o2 (show o < 5 by omega) (show min 40 (9999 - m) ≤ 40 by omega) (fun j hj => ⟨a2 j hj, hrs_le hY (by omega) (hO o (by omega)) (by omega)⟩) n0 0 (by omega) (by have := hR.1; omega) (fun j hj => by omega)
          by_cases y : soB n ra rc rh o (min 40 (9999 - m)) (hrs T.hF T.gF o m (pm o)) = true
          · obtain ⟨M', r1, r2⟩ := nxt M2 f2 (fun _ => y)
            refine ⟨M', r1, ?_⟩
            have yy : ¬ bI (soB n ra rc rh o (min 40 (9999 - m)) (hrs T.hF T.gF o m (pm o)) = true) = 0 := by rw [bI_t y]; decide
            rcases r2 with ⟨s1, s2⟩ | ⟨s1, s2⟩
            · exact Or.inl ⟨eq_f st (eq_f hne (eq_b e (eq_f (show ¬ (1 : Int32) = 0 by decide) (eq_b a1 (eq_b sv (eq_f yy s1)))))), s2⟩
            · exact Or.inr ⟨eq_f st (eq_f hne (eq_b e (eq_f (show ¬ (1 : Int32) = 0 by decide) (eq_b a1 (eq_b sv (eq_f yy s1)))))), s2⟩
          · exact ⟨M2, f2, Or.inr ⟨eq_f st (eq_f hne (eq_b e (eq_f (show ¬ (1 : Int32) = 0 by decide) (eq_b a1 (eq_b sv (eq_t (bI_f y) rfl)))))), o, by omega, z, y⟩⟩
        · obtain ⟨M', r1, r2⟩ := nxt M XF.r (fun _ => soB_iff.mpr (fun i hi hrc => absurd hrc (e' i hi)))
          refine ⟨M', r1, ?_⟩
          rcases r2 with ⟨s1, s2⟩ | ⟨s1, s2⟩
          · exact Or.inl ⟨eq_f st (eq_f hne (eq_b e (eq_t rfl s1))), s2⟩
          · exact Or.inr ⟨eq_f st (eq_f hne (eq_b e (eq_t rfl s1))), s2⟩
/-- what could have been held, as bits -/
theorem xheld {n0 q b c m n : Nat} {T : TP} {pm : Nat → Int32 × Nat} {s : Nat × List (Nat × Nat)} {ra rc rh : Nat → Nat} {M MY : Mem} (hn : 1700 ≤ n0) (hY : YT n0 b T MY) (hc : c < T.nc) (hm : m ≤ 9999) (hO : PsO T.nt T.nc pm) (hT : XT n0 q T M) (hS : SX q T.nc T.nd m pm s M) (hq : gR M 1 = q) (hR : XRw n T.nc ra rc rh M) :
    ∃ M', XF hA M M' ∧ ((fX11_findHeld n0 (nI c) M = some (nI (Dn (fun v => b01 (soB n ra rc rh c (min 40 (9999 - m)) (hby T c m v))) (T.nt + 1)), M') ∧ (∀ j, j < T.nc → ¬ j = c → soB n ra rc rh j (min 40 (9999 - m)) (hrs T.hF T.gF j m (pm j)) = true) ∧ (∀ v j, v ≤ T.nt → j ≤ min 40 (9999 - m) → gA M' (83 + v) j = nI (hby T c m v j))) ∨ (fX11_findHeld n0 (nI c) M = some (0, M') ∧ ∃ j, j < T.nc ∧ ¬ j = c ∧ ¬ soB n ra rc rh j (min 40 (9999 - m)) (hrs T.hF T.gF j m (pm j)) = true)) := by
  obtain ⟨o1, o2, o3, _⟩ := hT.2.1
  obtain ⟨M1, f1, r⟩ := xhd2 (n0 := n0) (n := n) (ra := ra) (rc := rc) (rh := rh) hn hY hc hm hO n0 0 M (by omega) (by omega) hT hS hq hR (fun j hj => by omega)
  rcases r with ⟨r1, r2⟩ | ⟨r1, r2⟩
  · obtain ⟨M2, s1, s2, s3⟩ := xhd69 (n0 := n0) (n := n) (ra := ra) (rc := rc) (rh := rh) hn hc hm (fun u j hu hj => hrs_le hY hc ⟨thI_ok hu, Nat.zero_le _⟩ (by omega)) n0 0 M1 (by omega) (by omega) (hT.xf f1 hA31) (hS.fr f1 hAst) (by rw [f1.1]; exact hq) (hR.fr f1 hA22) (fun v j hv => by omega)
    exact ⟨M2, f1.tr s3, Or.inl ⟨r1.trans s1, r2, s2⟩⟩
  · exact ⟨M1, f1, Or.inr ⟨r1, r2⟩⟩
end
section
/-! WHAT WAS HELD: the reference, and the call -/
def cnt (P : Nat → Bool) : Nat → Nat
  | 0 => 0
  | i + 1 => cnt P i + b01 (P i)
theorem cnt_le (P : Nat → Bool) : ∀ i, cnt P i ≤ i
  | 0 => Nat.le_refl _
  | i + 1 => by
    have := cnt_le P i
    have := b01_le (P i)
    show cnt P i + b01 (P i) ≤ i + 1
    omega
theorem cnt_full {P : Nat → Bool} : ∀ n, cnt P n = n ↔ ∀ i, i < n → P i = true
  | 0 => ⟨fun _ i hi => by omega, fun _ => rfl⟩
  | n + 1 => by
    have ih := cnt_full (P := P) n
    have l := cnt_le P n
    show cnt P n + b01 (P n) = n + 1 ↔ _
    constructor
    · intro h
      have b := b01_le (P n)
      have e1 : cnt P n = n := by omega
      have e2 : P n = true := by
        by_cases z : P n = true
        · exact z
        · have : b01 (P n) = 0 := if_neg z
          omega
      intro i hi
      by_cases z : i = n
      · rw [z]; exact e2
      · exact ih.mp e1 i (by omega)
    · intro h
      rw [ih.mpr (fun i hi => h i (by omega)), h n (by omega)]
      rfl
theorem cnt_add {P Q S : Nat → Bool} : ∀ n, (∀ i, i < n → b01 (P i) + b01 (Q i) = b01 (S i)) → cnt P n + cnt Q n = cnt S n
  | 0, _ => rfl
  | n + 1, h => by
    have ih := cnt_add (P := P) (Q := Q) (S := S) n (fun i hi => h i (by omega))
    have e := h n (by omega)
    show cnt P n + b01 (P n) + (cnt Q n + b01 (Q n)) = cnt S n + b01 (S n)
    omega
theorem YRw.fr {n nc : Nat} {ra rc rh : Nat → Nat} {P : Nat → Nat → Prop} {M M' : Mem} (h : YRw n nc ra rc rh M) (f : YF P M M') (hP : ∀ a i, P a i → ¬ (39 ≤ a ∧ a ≤ 41)) : YRw n nc ra rc rh M' := ⟨h.1, by rw [f.2.2.1]; exact h.2.1, fun k hk => by
  rw [f.gA (a := 39) (fun i z => hP 39 i z (by decide)) (by decide), f.gA (a := 40) (fun i z => hP 40 i z (by decide)) (by decide), f.gA (a := 41) (fun i z => hP 41 i z (by decide)) (by decide)]
  exact h.2.2 k hk⟩
/-- layer 1 and the hours by each thing -/
def hP (a i : Nat) : Prop := lP 1 a i ∨ a = 42
theorem hP28 : ∀ a i, hP a i → 28 ≤ a := fun a i z => by unfold hP lP tP dP at z; omega
theorem hP39 : ∀ a i, hP a i → ¬ (39 ≤ a ∧ a ≤ 41) := fun a i z => by unfold hP lP tP dP at z; omega
theorem hPn : ¬ hP 28 0 := fun z => by unfold hP lP tP dP at z; omega
theorem hP0 : ∀ a i, hP a i → ¬ lP 0 a i := fun a i z y => by unfold hP lP tP dP at z; unfold lP tP dP at y; omega
theorem hPsc {M M' : Mem} (f : YF hP M M') : YF scP M M' := f.wk (fun a i z => z.elim (fun y => Or.inl y) (fun y => Or.inr (Or.inr y)))
theorem lh {M M' : Mem} (f : YF (lP 1) M M') : YF hP M M' := f.wk (fun _ _ z => Or.inl z)
/-- whether a row is met by the palms behind k minutes -/
def mtQ (T : TP) (m : Nat) (pm : Nat → Int32 × Nat) (ra rc rh : Nat → Nat) (k : Nat) : Nat → Bool := fun i => decide (ra i = k ∧ hrs T.hF T.gF (rc i) m (pm (rc i)) k = rh i)
def mtP (T : TP) (m : Nat) (pm : Nat → Int32 × Nat) (ra rc rh : Nat → Nat) (k : Nat) : Nat → Bool := fun i => decide (ra i < k ∧ hrs T.hF T.gF (rc i) m (pm (rc i)) (ra i) = rh i)
theorem mt_add {T : TP} {m k n : Nat} {pm : Nat → Int32 × Nat} {ra rc rh : Nat → Nat} : cnt (mtP T m pm ra rc rh k) n + cnt (mtQ T m pm ra rc rh k) n = cnt (mtP T m pm ra rc rh (k + 1)) n := by
  refine cnt_add n (fun i _ => ?_)
  unfold mtP mtQ b01
  by_cases z : ra i < k
  · have e1 : ¬ ra i = k := by omega
    by_cases y : hrs T.hF T.gF (rc i) m (pm (rc i)) (ra i) = rh i
    · rw [if_pos (decide_eq_true ⟨z, y⟩), if_neg (fun u => e1 (of_decide_eq_true u).1), if_pos (decide_eq_true ⟨by omega, y⟩)]
    · rw [if_neg (fun u => y (of_decide_eq_true u).2), if_neg (fun u => e1 (of_decide_eq_true u).1), if_neg (fun u => y (of_decide_eq_true u).2)]
  · by_cases e1 : ra i = k
    · by_cases y : hrs T.hF T.gF (rc i) m (pm (rc i)) (ra i) = rh i
      · rw [if_neg (fun u => z (of_decide_eq_true u).1), if_pos (decide_eq_true ⟨e1, by rw [← e1]; exact y⟩), if_pos (decide_eq_true ⟨by omega, y⟩)]
      · rw [if_neg (fun u => z (of_decide_eq_true u).1), if_neg (fun u => y (by rw [e1]; exact (of_decide_eq_true u).2)), if_neg (fun u => y (of_decide_eq_true u).2)]
    · rw [if_neg (fun u => z (of_decide_eq_true u).1), if_neg (fun u => e1 (of_decide_eq_true u).1), if_neg (fun u => by have := (of_decide_eq_true u).1; omega)]
abbrev yb71 (n0 : Nat) (k4 : Int32 → Int32 → Int32 → Mem → Option (Int32 × Mem)) (k36 : Int32 → Int32 → Int32 → Int32 → Int32 → Mem → Option (Int32 × Mem)) : Nat → Int32 → Int32 → Int32 → Int32 → Int32 → Int32 → Mem → Option (Int32 × Mem) := loopN (bX12_heldBits_71 n0 k4 k36) (fun _ _ _ _ _ _ _ => none)
theorem yh71 {n0 b m k n : Nat} {T : TP} {pm : Nat → Int32 × Nat} {s : Nat × List (Nat × Nat)} {ra rc rh : Nat → Nat} {k4 : Int32 → Int32 → Int32 → Mem → Option (Int32 × Mem)} {k36 : Int32 → Int32 → Int32 → Int32 → Int32 → Mem → Option (Int32 × Mem)} {x1 x2 x3 : Int32} (hn : 1700 ≤ n0) (hO : PsO T.nt T.nc pm) (hs : sOk T.nd s) (hm : m + k ≤ 9999) (hk40 : k ≤ 40) :
    ∀ w i met M, i ≤ n → n < w + i → YT n0 b T M → LyD 1 T.nc (m + k) (trP T m pm k) s M → YRw n T.nc ra rc rh M → met ≤ 1000 →
    ∃ M', yb71 n0 k4 k36 w x1 x2 x3 (nI (met + cnt (mtQ T m pm ra rc rh k) i)) (nI k) (nI i) M = k36 x1 x2 x3 (nI (met + cnt (mtQ T m pm ra rc rh k) n)) (nI (k + 1)) M' ∧ LyD 1 T.nc (m + k + 1) (trP T m pm (k + 1)) s M' ∧ YF (lP 1) M M'
  | 0, i, met, M, hi, hw, _, _, _, _ => by omega
  | w + 1, i, met, M, hi, hw, hY, hL, hR, hmet => by
    show ∃ M', bX12_heldBits_71 n0 k4 k36 (yb71 n0 k4 k36 w) x1 x2 x3 _ (nI k) (nI i) M = _ ∧ _
    have h16 := hR.1
    have h5 := hY.2.1.2.1
    have hl := hs.l
    have ci := cnt_le (mtQ T m pm ra rc rh k) i
    unfold bX12_heldBits_71
    by_cases g : i = n
    · subst g
      obtain ⟨M1, g1, g2, g3⟩ := ytickD (v := 1) hn hY (by decide) hL (trP_ok hO k) hs (by omega)
      refine ⟨M1, eq_t (by rw [hR.2.1]; exact Int32.le_refl _) (eq_b g1 ?_), g2, g3⟩
      rw [show nI k + 1 = nI (k + 1) from nI_add k 1]
    · have cii : (nI i).toNatClampNeg = i := nI_clamp (by omega)
      obtain ⟨r1, r2, r3, r4, r5, r6⟩ := hR.2.2 i (by omega)
      have st : ¬ gI M 61 ≤ nI i := by rw [hR.2.1]; exact nI_ge (by omega) (by omega)
      have oi : ¬ oob (nI i) 16 := nI_in (by omega) (by decide)
      have k1 : nI i + 1 = nI (i + 1) := nI_add i 1
      have step : cnt (mtQ T m pm ra rc rh k) (i + 1) = cnt (mtQ T m pm ra rc rh k) i + b01 (mtQ T m pm ra rc rh k i) := rfl
      have nxt : ∀ M2 u1, YF (lP 1) M M2 → LyD 1 T.nc (m + k) (trP T m pm k) s M2 → u1 = nI (b01 (mtQ T m pm ra rc rh k i)) → ∃ M', fX12_heldBits_121 n0 k4 k36 (yb71 n0 k4 k36 w) x1 x2 x3 (nI k) (nI i) (nI (met + cnt (mtQ T m pm ra rc rh k) i)) u1 M2 = k36 x1 x2 x3 (nI (met + cnt (mtQ T m pm ra rc rh k) n)) (nI (k + 1)) M' ∧ LyD 1 T.nc (m + k + 1) (trP T m pm (k + 1)) s M' ∧ YF (lP 1) M M' := fun M2 u1 f2 L2 e => by
        obtain ⟨M', p1, p2, p3⟩ := yh71 (k4 := k4) (k36 := k36) (x1 := x1) (x2 := x2) (x3 := x3) hn hO hs hm hk40 w (i + 1) met M2 (by omega) (by omega) (hY.yf f2 lP28) L2 (hR.fr f2 (fun a i z => by unfold lP tP dP at z; omega)) hmet
        refine ⟨M', ?_, p2, f2.tr p3⟩
        unfold fX12_heldBits_121
        refine eq_e (v' := nI (met + cnt (mtQ T m pm ra rc rh k) (i + 1))) ?_ ?_
        · rw [e, nI_add, step, Nat.add_assoc]
        · rw [k1]; exact p1
      by_cases z : ra i = k
      · obtain ⟨l1, M1, e1, e2⟩ := yhr hY (v := 1) (by decide) hL.1 (trP_ok hO k) (by omega) r2
        have L1 : LyD 1 T.nc (m + k) (trP T m pm k) s M1 := LyD.fr (P := fun _ _ => False) hL e2.y h5 (by omega) (fun _ _ z => z.elim)
        have a41 : gA M1 41 (nI i).toNatClampNeg = nI (rh i) := by rw [cii, e2.2.2.2.1 41 (by decide)]; exact r6
        have hq : T.hF (rc i) (trP T m pm k (rc i)).1 (trP T m pm k (rc i)).2 (m + k) = hrs T.hF T.gF (rc i) m (pm (rc i)) k := rfl
        rw [hq] at l1 e1
        by_cases y : hrs T.hF T.gF (rc i) m (pm (rc i)) k = rh i
        · obtain ⟨M', p1, p2, p3⟩ := nxt M1 1 e2.y L1 (by
            rw [show mtQ T m pm ra rc rh k i = true from decide_eq_true ⟨z, y⟩]
            rfl)
          exact ⟨M', eq_f st (eq_f oi (eq_t (by rw [cii, r4, z]) (eq_f oi (eq_b (by rw [cii, r5]; exact e1) (eq_f oi (eq_t (by rw [a41]; exact congrArg nI y) p1)))))), p2, p3⟩
        · obtain ⟨M', p1, p2, p3⟩ := nxt M1 0 e2.y L1 (by
            rw [show mtQ T m pm ra rc rh k i = false from decide_eq_false (fun u => y u.2)]
            rfl)
          refine ⟨M', eq_f st (eq_f oi (eq_t (by rw [cii, r4, z]) (eq_f oi (eq_b (by rw [cii, r5]; exact e1) (eq_f oi (eq_f (by rw [a41]; exact fun u => y ((nI_eq (by omega) (by omega)).mp u)) ?_)))))), p2, p3⟩
          unfold fX12_heldBits_120
          exact p1
      · obtain ⟨M', p1, p2, p3⟩ := nxt M 0 YF.r hL (by
          rw [show mtQ T m pm ra rc rh k i = false from decide_eq_false (fun u => z u.1)]
          rfl)
        refine ⟨M', eq_f st (eq_f oi (eq_f (by rw [cii, r4]; exact fun u => z ((nI_eq (by omega) (by omega)).mp u)) ?_)), p2, p3⟩
        unfold fX12_heldBits_120
        exact p1
theorem y41Ix (u k : Nat) : (41 : Int32) * nI u + nI k = nI (41 * u + k) := by
  rw [show (41 : Int32) = nI 41 from rfl, nI_mul, nI_add]
abbrev yb36 (n0 : Nat) (k4 : Int32 → Int32 → Int32 → Mem → Option (Int32 × Mem)) : Nat → Int32 → Int32 → Int32 → Int32 → Int32 → Mem → Option (Int32 × Mem) := loopN (bX12_heldBits_36 n0 k4) (fun _ _ _ _ _ _ => none)
theorem yh36 {n0 b c m n u : Nat} {T : TP} {pm : Nat → Int32 × Nat} {s : Nat × List (Nat × Nat)} {ra rc rh : Nat → Nat} {k4 : Int32 → Int32 → Int32 → Mem → Option (Int32 × Mem)} {x2 : Int32} (hn : 1700 ≤ n0) (hc : c < T.nc) (hu : u ≤ 6) (hO : PsO T.nt T.nc pm) (hs : sOk T.nd s) (hm : m ≤ 9999) :
    ∀ w k M, k ≤ min 40 (9999 - m) + 1 → min 40 (9999 - m) + 1 < w + k → YT n0 b T M → LyD 1 T.nc (m + k) (trP T m pm k) s M → YRw n T.nc ra rc rh M → gA M 28 0 = nI m →
    ∃ M', yb36 n0 k4 w (nI c) x2 (thI u) (nI (cnt (mtP T m pm ra rc rh k) n)) (nI k) M = fX12_heldBits_160 n0 k4 (nI c) (thI u) x2 (if cnt (mtP T m pm ra rc rh (min 40 (9999 - m) + 1)) n = n then (1 : Int32) <<< (nI u &&& 31) else 0) M' ∧ (∀ j, k ≤ j → j ≤ min 40 (9999 - m) → gA M' 42 (41 * u + j) = nI (hrs T.hF T.gF c m (pm c) j)) ∧ (∀ i, ¬ (41 * u + k ≤ i ∧ i < 41 * u + 41) → gA M' 42 i = gA M 42 i) ∧ YF hP M M'
  | 0, k, M, hk, hw, _, _, _, _ => by omega
  | w + 1, k, M, hk, hw, hY, hL, hR, h28 => by
    show ∃ M', bX12_heldBits_36 n0 k4 (yb36 n0 k4 w) (nI c) x2 (thI u) _ (nI k) M = _ ∧ _
    have h16 := hR.1
    have h5 := hY.2.1.2.1
    have hl := hs.l
    unfold bX12_heldBits_36
    by_cases g : k = min 40 (9999 - m) + 1
    · have a0 := yahF (n0 := n0) (lo := 0) (hi := 40) (k := k) h28 hm (by decide) (by decide) (by omega) (by omega)
      have cl := cnt_le (mtP T m pm ra rc rh k) n
      refine ⟨M, eq_b a0 (eq_t rfl ?_), fun j h1 h2 => by omega, fun _ _ => rfl, YF.r⟩
      rw [← g]
      by_cases z : cnt (mtP T m pm ra rc rh k) n = n
      · rw [if_pos z, thI_1]
        exact eq_t (by show nI _ = gI M 61; rw [hR.2.1, z]) rfl
      · rw [if_neg z]
        exact eq_f (by show ¬ nI _ = gI M 61; rw [hR.2.1]; exact fun y => z ((nI_eq (by omega) (by omega)).mp y)) rfl
    · have a1 := yahT (n0 := n0) (lo := 0) (hi := 40) (k := k) h28 (by omega) (by omega) (by decide) (by omega)
      obtain ⟨l1, M1, e1, e2⟩ := yhr hY (v := 1) (by decide) hL.1 (trP_ok hO k) (by omega) hc
      have ev : T.hF c (trP T m pm k c).1 (trP T m pm k c).2 (m + k) = hrs T.hF T.gF c m (pm c) k := rfl
      rw [ev] at e1 l1
      have hM2 : ∃ M2, M2 = sA M1 42 (41 * u + k) (nI (hrs T.hF T.gF c m (pm c) k)) := ⟨_, rfl⟩
      obtain ⟨M2, eM⟩ := hM2
      have f2 : YF hP M M2 := by rw [eM]; exact YF.a (e2.y) (Or.inr rfl)
      have L2 : LyD 1 T.nc (m + k) (trP T m pm k) s M2 := LyD.fr (P := fun a i => a = 42) hL (by rw [eM]; exact YF.a (e2.y) rfl) h5 (by omega) (fun a i z y => by unfold lP tP dP at y; omega)
      obtain ⟨M3, p1, p2, p3⟩ := yh71 (n0 := n0) (b := b) (n := n) (ra := ra) (rc := rc) (rh := rh) (k4 := k4) (k36 := yb36 n0 k4 w) (x1 := nI c) (x2 := x2) (x3 := thI u) hn hO hs (show m + k ≤ 9999 by omega) (by omega) n0 0 (cnt (mtP T m pm ra rc rh k) n) M2 (by omega) (by omega) (hY.yf f2 hP28) L2 (hR.fr f2 hP39) (by have := cnt_le (mtP T m pm ra rc rh k) n; omega)
      rw [mt_add] at p1
      have f3 : YF hP M M3 := f2.tr (lh p3)
      have a42 : ∀ i, gA M3 42 i = gA M2 42 i := fun i => p3.2.2.2.1 42 i (by decide) (fun z => by unfold lP tP dP at z; omega)
      have b42 : ∀ i, gA M1 42 i = gA M 42 i := fun i => by rw [e2.2.2.2.1 42 (by decide)]
      obtain ⟨M', r1, r2, r3, r4⟩ := yh36 (k4 := k4) (x2 := x2) hn hc hu hO hs hm w (k + 1) M3 (by omega) (by omega) (hY.yf f3 hP28) p2 (hR.fr f3 hP39) (m28f h28 f3 hPn)
      refine ⟨M', ?_, fun j h1 h2 => ?_, fun i z => ?_, f3.tr r4⟩
      · refine eq_b a1 (eq_f (show ¬ (1 : Int32) = 0 by decide) (eq_b e1 ?_))
        rw [thI_1, y41Ix]
        refine eq_f (nI_in (by omega) (by decide)) (eq_e (v' := M2) ?_ (Eq.trans p1 r1))
        rw [nI_clamp (by omega), eM]
      · by_cases z : j = k
        · rw [z, r3 _ (by omega), a42, eM, gA_sA, if_pos rfl, if_pos rfl]
        · exact r2 j (by omega) h2
      · rw [r3 i (by omega), a42, eM, gA_sA, if_pos rfl, if_neg (by omega), b42]
abbrev yb4 (n0 : Nat) : Nat → Int32 → Int32 → Int32 → Mem → Option (Int32 × Mem) := loopN (bX12_heldBits_4 n0) (fun _ _ _ _ => none)
/-- all rows are met with the thing of choice u -/
def metB (T : TP) (m n c : Nat) (pm : Nat → Int32 × Nat) (ra rc rh : Nat → Nat) (u : Nat) : Bool := decide (cnt (mtP T m (upP pm c (thI u, 0)) ra rc rh (min 40 (9999 - m) + 1)) n = n)
theorem yh4 {n0 b c m n : Nat} {T : TP} {pm : Nat → Int32 × Nat} {s : Nat × List (Nat × Nat)} {ra rc rh : Nat → Nat} (hn : 1700 ≤ n0) (hc : c < T.nc) (hO : PsO T.nt T.nc pm) (hs : sOk T.nd s) (hm : m ≤ 9999) :
    ∀ w u M, u ≤ T.nt + 1 → T.nt + 1 < w + u → YT n0 b T M → LyD 0 T.nc m pm s M → YRw n T.nc ra rc rh M → (∀ v j, v < u → j ≤ min 40 (9999 - m) → gA M 42 (41 * v + j) = nI (hby T c m v j)) →
    ∃ M', yb4 n0 w (nI c) (nI (Dn (fun v => b01 (metB T m n c pm ra rc rh v)) u)) (thI u) M = some (nI (Dn (fun v => b01 (metB T m n c pm ra rc rh v)) (T.nt + 1)), M') ∧ (∀ v j, v ≤ T.nt → j ≤ min 40 (9999 - m) → gA M' 42 (41 * v + j) = nI (hby T c m v j)) ∧ YF hP M M'
  | 0, u, M, hu, hw, _, _, _, _ => by omega
  | w + 1, u, M, hu, hw, hY, hL, hR, hB => by
    show ∃ M', bX12_heldBits_4 n0 (yb4 n0 w) (nI c) _ (thI u) M = _ ∧ _
    obtain ⟨o1, o2, o3, _⟩ := hY.2.1
    have hb := hY.2.2.1
    have hl := hs.l
    have o13 : ¬ oob (gI M 13) 2 := by rw [hY.2.2.2.1]; exact nI_in (by omega) (by decide)
    have yq : gA M 2 (gI M 13).toNatClampNeg = nI T.nt := by rw [hY.2.2.2.1, nI_clamp (by omega)]; exact hY.2.2.2.2.1
    unfold bX12_heldBits_4
    by_cases g : u = T.nt + 1
    · subst g
      exact ⟨M, eq_f o13 (eq_t (by rw [yq, ← thI_s]; exact Int32.le_refl _) rfl), fun v j hv hj => hB v j (by omega) hj, YF.r⟩
    · obtain ⟨M1, b1, b2, b3⟩ := ycopyD (n0 := n0) (v := 1) (u := 0) hn (by decide) (by decide) (by decide) o2 (by omega) hL
      obtain ⟨M2, c1, c2, c3⟩ := yput1 (n0 := n0) (t := thI u) b2 o2 hc
      have f2 : YF hP M M2 := lh (b3.tr c3)
      have PO := upP_ok (c := c) hO (show pOk T.nt (thI u, 0) from ⟨thI_ok (by omega), Nat.zero_le _⟩)
      have z0 : cnt (mtP T m (upP pm c (thI u, 0)) ra rc rh 0) n = 0 := by
        have : ∀ i, cnt (mtP T m (upP pm c (thI u, 0)) ra rc rh 0) i = 0 := fun i => by
          induction i with
          | zero => rfl
          | succ i ih =>
            show cnt _ i + b01 (mtP T m (upP pm c (thI u, 0)) ra rc rh 0 i) = 0
            rw [ih, show mtP T m (upP pm c (thI u, 0)) ra rc rh 0 i = false from decide_eq_false (fun z => by omega)]
            rfl
        exact this n
      obtain ⟨M3, p1, p2, p3, p4⟩ := yh36 (n0 := n0) (b := b) (c := c) (n := n) (u := u) (ra := ra) (rc := rc) (rh := rh) (k4 := yb4 n0 w) (x2 := nI (Dn (fun v => b01 (metB T m n c pm ra rc rh v)) u)) hn hc (by omega) PO hs hm n0 0 M2 (by omega) (by omega) (hY.yf f2 hP28) c2 (hR.fr f2 hP39) (m28f hL.1.1 f2 hPn)
      rw [z0] at p1
      have f3 : YF hP M M3 := f2.tr p4
      have L3 : LyD 0 T.nc m pm s M3 := hL.fr f3 o2 (by omega) hP0
      have D7 := Dn7 (f := fun v => b01 (metB T m n c pm ra rc rh v)) (fun d => b01_le _) u (by omega)
      have P7 := p128 (n := u) (by omega)
      have a42 : ∀ i, gA M2 42 i = gA M 42 i := fun i => (b3.tr c3).2.2.2.1 42 i (by decide) (fun z => by unfold lP tP dP at z; omega)
      obtain ⟨M', r1, r2, r3⟩ := yh4 (n := n) (ra := ra) (rc := rc) (rh := rh) hn hc hO hs hm w (u + 1) M3 (by omega) (by omega) (hY.yf f3 hP28) L3 (hR.fr f3 hP39) (fun v j hv hj => by
        by_cases z : v = u
        · rw [z, p2 j (by omega) hj, upP_at]
          rfl
        · rw [p3 _ (by omega), a42]
          exact hB v j (by omega) hj)
      refine ⟨M', eq_f o13 (eq_f (by rw [yq]; exact thI_lt (by omega) o1) (eq_b b1 (eq_b c1 (Eq.trans p1 ?_)))), r2, f3.tr r3⟩
      have step : Dn (fun v => b01 (metB T m n c pm ra rc rh v)) (u + 1) = Dn (fun v => b01 (metB T m n c pm ra rc rh v)) u + b01 (metB T m n c pm ra rc rh u) * 2 ^ u := rfl
      unfold fX12_heldBits_160
      refine eq_e (v' := nI (Dn (fun v => b01 (metB T m n c pm ra rc rh v)) (u + 1))) ?_ ?_
      · by_cases z : cnt (mtP T m (upP pm c (thI u, 0)) ra rc rh (min 40 (9999 - m) + 1)) n = n
        · rw [if_pos z, b7_or u (by omega) _ (by omega) D7.1, step, show metB T m n c pm ra rc rh u = true from decide_eq_true z]
          congr 2
          show 2 ^ u = 1 * 2 ^ u
          omega
        · rw [if_neg z, show (0 : Int32) = nI 0 from rfl, nOr, Nat.or_zero, step, show metB T m n c pm ra rc rh u = false from decide_eq_false z]
          congr 1
          show _ = _ + 0 * 2 ^ u
          omega
      · rw [thI_1, thI_s]
        exact r1
theorem met_iff {T : TP} {m n c u : Nat} {pm : Nat → Int32 × Nat} {ra rc rh : Nat → Nat} (hr : ∀ i, i < n → rc i < T.nc) : metB T m n c pm ra rc rh u = true ↔ ((∀ j, j < T.nc → ¬ j = c → soB n ra rc rh j (min 40 (9999 - m)) (hrs T.hF T.gF j m (pm j)) = true) ∧ soB n ra rc rh c (min 40 (9999 - m)) (hby T c m u) = true) := by
  unfold metB
  rw [decide_eq_true_iff, cnt_full]
  have ex : ∀ i, i < n → (mtP T m (upP pm c (thI u, 0)) ra rc rh (min 40 (9999 - m) + 1) i = true ↔ (ra i ≤ min 40 (9999 - m) ∧ hrs T.hF T.gF (rc i) m (upP pm c (thI u, 0) (rc i)) (ra i) = rh i)) := fun i _ => by
    unfold mtP
    rw [decide_eq_true_iff, Nat.lt_succ_iff]
  constructor
  · intro h
    refine ⟨fun j hj hne => soB_iff.mpr (fun i hi hrc => ?_), soB_iff.mpr (fun i hi hrc => ?_)⟩
    · have := (ex i hi).mp (h i hi)
      rw [hrc, show upP pm c (thI u, 0) j = pm j from if_neg hne] at this
      exact this
    · have := (ex i hi).mp (h i hi)
      rw [hrc, upP_at] at this
      exact this
  · intro h i hi
    refine (ex i hi).mpr ?_
    by_cases z : rc i = c
    · rw [z, upP_at]
      exact soB_iff.mp h.2 i hi z
    · rw [show upP pm c (thI u, 0) (rc i) = pm (rc i) from if_neg z]
      exact soB_iff.mp (h.1 (rc i) (hr i hi) z) i hi rfl
/-- what was held, as bits, on both sides; the hours by each thing -/
theorem held2 {n0 q b : Nat} {T : TP} {nr C m c : Nat} {pm : Nat → Int32 × Nat} {s : Nat × List (Nat × Nat)} {MX MY : Mem} (hn : 1700 ≤ n0) (h : RR n0 q b T nr C m pm s MX MY) (hc : c < T.nc) : ∃ D MX' MY', D < 2 ^ (T.nt + 1) ∧ fX11_findHeld n0 (nI c) MX = some (nI D, MX') ∧ fX12_heldBits n0 (nI c) MY = some (nI D, MY') ∧ XF hA MX MX' ∧ YF hP MY MY' ∧ (¬ D = 0 → ∀ v j, v ≤ T.nt → j ≤ min 40 (9999 - m) → gA MX' (83 + v) j = nI (hby T c m v j)) ∧ ∀ v j, v ≤ T.nt → j ≤ min 40 (9999 - m) → gA MY' 42 (41 * v + j) = nI (hby T c m v j) := by
  obtain ⟨h1, h2, h3, h4, h5, h6, h7⟩ := id h
  obtain ⟨o1, o2, o3, _⟩ := h1.2.2.2.1.2.1
  obtain ⟨n, ra, rc, rh, rX, rY⟩ := h6.rows o2
  obtain ⟨Y1, b1, b2, b3⟩ := yh4 (n0 := n0) (b := b) (n := n) (ra := ra) (rc := rc) (rh := rh) hn hc h2.2.1 h2.2.2 h2.1 n0 0 MY (by omega) (by omega) h1.2.2.2.2.1 h4 rY (fun v j hv => by omega)
  have Dl := (Dn7 (f := fun v => b01 (metB T m n c pm ra rc rh v)) (fun d => b01_le _) (T.nt + 1) (by omega)).1
  have hr : ∀ i, i < n → rc i < T.nc := fun i hi => (rX.2.2 i hi).2.1
  obtain ⟨X1, f1, r⟩ := xheld (n0 := n0) (n := n) (ra := ra) (rc := rc) (rh := rh) hn h1.2.2.2.2.1 hc h2.1 h2.2.1 h1.2.2.2.1 h3 h1.2.1 rX
  refine ⟨_, X1, Y1, Dl, ?_, b1, f1, b3, ?_, b2⟩
  · rcases r with ⟨r1, r2, r3⟩ | ⟨r1, j, j1, j2, j3⟩
    · rw [r1]
      congr 3
      refine Dn_congr _ (fun e _ => ?_)
      show b01 _ = b01 _
      by_cases z : soB n ra rc rh c (min 40 (9999 - m)) (hby T c m e) = true
      · rw [z, (met_iff hr).mpr ⟨r2, z⟩]
      · rw [show soB n ra rc rh c (min 40 (9999 - m)) (hby T c m e) = false by simpa using z, show metB T m n c pm ra rc rh e = false by
          by_cases y : metB T m n c pm ra rc rh e = true
          · exact absurd ((met_iff hr).mp y).2 z
          · simpa using y]
    · rw [r1, Dn_zero (f := fun v => b01 (metB T m n c pm ra rc rh v)) _ (fun e _ => by
        show b01 _ = 0
        by_cases y : metB T m n c pm ra rc rh e = true
        · exact absurd (((met_iff hr).mp y).1 j j1 j2) j3
        · exact if_neg y)]
      rfl
  · intro hD
    rcases r with ⟨r1, r2, r3⟩ | ⟨r1, j, j1, j2, j3⟩
    · exact r3
    · exact absurd (Dn_zero (f := fun v => b01 (metB T m n c pm ra rc rh v)) _ (fun e _ => by
        show b01 _ = 0
        by_cases y : metB T m n c pm ra rc rh e = true
        · exact absurd (((met_iff hr).mp y).1 j j1 j2) j3
        · exact if_neg y)) hD
theorem cHeld {n0 : Nat} {x : Int32} {MX MY : Mem} (hn : 1700 ≤ n0) (h : R n0 MX MY) : Cal n0 (fX11_held n0 x MX) (fX12_held n0 x MY) := by
  have h0 := h
  obtain ⟨q, b, T, nr, C, m, pm, s, h⟩ := h
  unfold fX11_held fX12_held
  rcases isCo h.1 x with ⟨c, hc, rfl, e1, e2⟩ | ⟨z, e1, e2⟩
  · obtain ⟨D, X1, Y1, d1, d2, d3, d4, d5, _⟩ := held2 hn h hc
    exact Cal.scr h (eq_b e1 (eq_f (show ¬ (1 : Int32) = 0 by decide) (eq_b d2 rfl))) (eq_b e2 (eq_f (show ¬ (1 : Int32) = 0 by decide) (eq_b d3 rfl))) (hAsc d4) (hPsc d5)
  · exact Cal.same (r := -1) h0 (eq_b e1 (eq_t rfl rfl)) (eq_b e2 (eq_t rfl rfl))
end
section
/-! TELLING ON BOTH SIDES -/
def alB (D : Nat) (h : Nat → Nat) (a : Nat) : Nat → Bool := fun b => decide (D / 2 ^ a % 2 = 1 ∧ D / 2 ^ b % 2 = 1 ∧ h a = h b)
def mx (D : Nat) (h : Nat → Nat) (N : Nat) : Nat → Nat
  | 0 => 0
  | a + 1 => max (mx D h N a) (cnt (alB D h a) N)
theorem mx_le (D : Nat) (h : Nat → Nat) (N : Nat) : ∀ a, mx D h N a ≤ N
  | 0 => Nat.zero_le _
  | a + 1 => by
    have := mx_le D h N a
    have := cnt_le (alB D h a) N
    show max _ _ ≤ N
    omega
theorem bit_hi {D n e : Nat} (hD : D < 2 ^ n) (he : n ≤ e) : ¬ D / 2 ^ e % 2 = 1 := by
  have : 2 ^ n ≤ 2 ^ e := Nat.pow_le_pow_right (by decide) he
  rw [Nat.div_eq_of_lt (by omega)]
  decide
theorem cnt_ext {P : Nat → Bool} {n : Nat} : ∀ k, (∀ i, n ≤ i → P i = false) → cnt P (n + k) = cnt P n
  | 0, _ => rfl
  | k + 1, h => by
    show cnt P (n + k) + b01 (P (n + k)) = _
    rw [cnt_ext k h, h (n + k) (by omega)]
    rfl
theorem cnt_none {P : Nat → Bool} : ∀ n, (∀ i, i < n → P i = false) → cnt P n = 0
  | 0, _ => rfl
  | n + 1, h => by
    show cnt P n + b01 (P n) = 0
    rw [cnt_none n (fun i hi => h i (by omega)), h n (by omega)]
    rfl
theorem mx_7 {D n : Nat} {h : Nat → Nat} (hn : n ≤ 7) (hD : D < 2 ^ n) : mx D h 7 7 = mx D h n n := by
  have e1 : ∀ a, cnt (alB D h a) 7 = cnt (alB D h a) n := fun a => by
    rw [show 7 = n + (7 - n) by omega]
    exact cnt_ext _ (fun i hi => decide_eq_false (fun z => bit_hi hD hi z.2.1))
  have e2 : ∀ a, mx D h 7 a = mx D h n a := fun a => by
    induction a with
    | zero => rfl
    | succ a ih =>
      show max (mx D h 7 a) (cnt (alB D h a) 7) = max (mx D h n a) (cnt (alB D h a) n)
      rw [ih, e1]
  rw [e2]
  have e3 : ∀ k, mx D h n (n + k) = mx D h n n := fun k => by
    induction k with
    | zero => rfl
    | succ k ih =>
      show max (mx D h n (n + k)) (cnt (alB D h (n + k)) n) = _
      rw [ih, cnt_none (P := alB D h (n + k)) n (fun i _ => decide_eq_false (fun z => bit_hi hD (by omega) z.1)), Nat.max_eq_left (Nat.zero_le _)]
  rw [show 7 = n + (7 - n) by omega]
  exact e3 _
abbrev xm30 (n0 : Nat) (k17 : Int32 → Int32 → Int32 → Int32 → Mem → Option (Int32 × Mem)) : Nat → Int32 → Int32 → Int32 → Int32 → Int32 → Int32 → Mem → Option (Int32 × Mem) := loopN (bX5_mostLeft_30 n0 k17) (fun _ _ _ _ _ _ _ => none)
theorem xml30 {n0 D k nt a : Nat} {h : Nat → Nat} {x3 : Int32} {k17 : Int32 → Int32 → Int32 → Int32 → Mem → Option (Int32 × Mem)} {M : Mem} (hnt : nt ≤ 6) (hD : D < 2 ^ (nt + 1)) (hk : k ≤ 40) (ha : a < 7) (hB : ∀ v, v ≤ nt → gA M (83 + v) k = nI (h v) ∧ h v ≤ 23) : ∀ w o, o ≤ 7 → 7 < w + o → xm30 n0 k17 w (nI D) (nI k) x3 (nI a) (nI (cnt (alB D h a) o)) (nI o) M = k17 (nI D) (nI k) (imax x3 (nI (cnt (alB D h a) 7))) (nI (a + 1)) M
  | 0, o, ho, hw => by omega
  | w + 1, o, ho, hw => by
    show bX5_mostLeft_30 n0 k17 (xm30 n0 k17 w) (nI D) (nI k) x3 (nI a) _ (nI o) M = _
    have D128 : D < 128 := Nat.lt_of_lt_of_le hD (p128 (by omega))
    unfold bX5_mostLeft_30
    by_cases g : o = 7
    · rw [g]
      refine eq_t (by decide) (eq_n ?_)
      rw [show nI a + 1 = nI (a + 1) from nI_add a 1]
    · have k1 : nI o + 1 = nI (o + 1) := nI_add o 1
      have step : cnt (alB D h a) (o + 1) = cnt (alB D h a) o + b01 (alB D h a o) := rfl
      have ih := xml30 (n0 := n0) (x3 := x3) (k17 := k17) hnt hD hk ha hB w (o + 1) (by omega) (by omega)
      have no : alB D h a o = false → fX5_mostLeft_61 n0 k17 (xm30 n0 k17 w) (nI D) (nI k) x3 (nI a) (nI (cnt (alB D h a) o)) (nI o) M = k17 (nI D) (nI k) (imax x3 (nI (cnt (alB D h a) 7))) (nI (a + 1)) M := fun z => by
        unfold fX5_mostLeft_61 fX5_mostLeft_62 fX5_mostLeft_93
        rw [step, z] at ih
        rw [k1]
        exact eq_t rfl ih
      have st : ¬ (7 : Int32) ≤ nI o := nI_ge (b := 7) (by omega) (by decide)
      by_cases z1 : D / 2 ^ a % 2 = 1
      · by_cases z2 : D / 2 ^ o % 2 = 1
        · have la : a ≤ nt := by
            rcases Nat.lt_or_ge nt a with y | y
            · exact absurd z1 (bit_hi hD y)
            · exact y
          have lo : o ≤ nt := by
            rcases Nat.lt_or_ge nt o with y | y
            · exact absurd z2 (bit_hi hD y)
            · exact y
          have ca : (nI a).toNatClampNeg = a := nI_clamp (by omega)
          have co : (nI o).toNatClampNeg = o := nI_clamp (by omega)
          have ck : (nI k).toNatClampNeg = k := nI_clamp (by omega)
          obtain ⟨h1, l1⟩ := hB a la
          obtain ⟨h2, l2⟩ := hB o lo
          refine eq_f st (eq_t ((b7_has D D128 a ha).mpr z1) (eq_t ((b7_has D D128 o (by omega)).mpr z2) ?_))
          unfold fX5_mostLeft_62
          simp only [ca, co, ck]
          refine eq_f (by decide) (eq_f (nI_in ha (by decide)) (eq_f (by rw [ln83 a ha]; exact nI_in (by omega) (by decide)) (eq_f (nI_in (by omega) (by decide)) (eq_f (by rw [ln83 o (by omega)]; exact nI_in (by omega) (by decide)) ?_))))
          unfold fX5_mostLeft_93
          rw [k1]
          by_cases y : h a = h o
          · refine eq_t (by rw [h1, h2, y]) ?_
            rw [step, show alB D h a o = true from decide_eq_true ⟨z1, z2, y⟩] at ih
            rw [show nI (cnt (alB D h a) o) + 1 = nI (cnt (alB D h a) o + 1) from nI_add _ 1]
            exact ih
          · refine eq_f (by rw [h1, h2]; exact fun u => y ((nI_eq (by omega) (by omega)).mp u)) ?_
            rw [step, show alB D h a o = false from decide_eq_false (fun u => y u.2.2)] at ih
            exact ih
        · exact eq_f st (eq_t ((b7_has D D128 a ha).mpr z1) (eq_f (fun u => z2 ((b7_has D D128 o (by omega)).mp u)) (no (decide_eq_false (fun u => z2 u.2.1)))))
      · exact eq_f st (eq_f (fun u => z1 ((b7_has D D128 a ha).mp u)) (no (decide_eq_false (fun u => z1 u.1))))
abbrev xm17 (n0 : Nat) : Nat → Int32 → Int32 → Int32 → Int32 → Mem → Option (Int32 × Mem) := loopN (bX5_mostLeft_17 n0) (fun _ _ _ _ _ => none)
theorem xml17 {n0 D k nt : Nat} {h : Nat → Nat} {M : Mem} (hn : 1700 ≤ n0) (hnt : nt ≤ 6) (hD : D < 2 ^ (nt + 1)) (hk : k ≤ 40) (hB : ∀ v, v ≤ nt → gA M (83 + v) k = nI (h v) ∧ h v ≤ 23) : ∀ w a, a ≤ 7 → 7 < w + a → xm17 n0 w (nI D) (nI k) (nI (mx D h 7 a)) (nI a) M = some (nI (mx D h 7 7), M)
  | 0, a, ha, hw => by omega
  | w + 1, a, ha, hw => by
    show bX5_mostLeft_17 n0 (xm17 n0 w) (nI D) (nI k) (nI (mx D h 7 a)) (nI a) M = _
    unfold bX5_mostLeft_17
    by_cases g : a = 7
    · rw [g]
      exact eq_t (by decide) rfl
    · refine eq_f (nI_ge (b := 7) (by omega) (by decide)) ?_
      have e := xml30 (n0 := n0) (x3 := nI (mx D h 7 a)) (k17 := xm17 n0 w) (M := M) hnt hD hk (show a < 7 by omega) hB n0 0 (by omega) (by omega)
      have l1 := mx_le D h 7 a
      have l2 := cnt_le (alB D h a) 7
      rw [imax_nI (by omega) (by omega)] at e
      exact e.trans (xml17 hn hnt hD hk hB w (a + 1) (by omega) (by omega))
theorem xml {n0 D k nt : Nat} {h : Nat → Nat} {M : Mem} (hn : 1700 ≤ n0) (hnt : nt ≤ 6) (hD : D < 2 ^ (nt + 1)) (hk : k ≤ 40) (hB : ∀ v, v ≤ nt → gA M (83 + v) k = nI (h v) ∧ h v ≤ 23) : fX5_mostLeft n0 (nI D) (nI k) M = some (nI (mx D h (nt + 1) (nt + 1)), M) := by
  unfold fX5_mostLeft
  rw [← mx_7 (n := nt + 1) (by omega) hD]
  exact eq_f (nI_nn (by omega)) (eq_t (nI_le (b := 40) hk (by decide)) (xml17 hn hnt hD hk hB n0 0 (by omega) (by omega)))
theorem y7has2 {n0 D d : Nat} {M : Mem} (hD : D < 128) (hd : d < 7) : fX12_has2 n0 (nI D) (nI d) M = some (bI (D / 2 ^ d % 2 = 1), M) := by
  unfold fX12_has2
  by_cases g : D / 2 ^ d % 2 = 1
  · rw [bI_t g]; exact eq_t ((b7_has D hD d hd).mpr g) rfl
  · rw [bI_f g]; exact eq_f (fun z => g ((b7_has D hD d hd).mp z)) rfl
abbrev yt78 (n0 : Nat) (k36 : Int32 → Int32 → Int32 → Int32 → Int32 → Mem → Option (Int32 × Mem)) (k58 : Int32 → Int32 → Int32 → Int32 → Int32 → Int32 → Int32 → Mem → Option (Int32 × Mem)) : Nat → Int32 → Int32 → Int32 → Int32 → Int32 → Int32 → Int32 → Int32 → Int32 → Mem → Option (Int32 × Mem) := loopN (bX12_tells_78 n0 k36 k58) (fun _ _ _ _ _ _ _ _ _ _ => none)
theorem yml78 {n0 b D k nt a : Nat} {h : Nat → Nat} {x2 x4 x5 : Int32} {k36 : Int32 → Int32 → Int32 → Int32 → Int32 → Mem → Option (Int32 × Mem)} {k58 : Int32 → Int32 → Int32 → Int32 → Int32 → Int32 → Int32 → Mem → Option (Int32 × Mem)} {M : Mem} (h13 : gI M 13 = nI b) (hb : b ≤ 1) (y2 : gA M 2 b = nI nt) (hnt : nt ≤ 6) (hD : D < 2 ^ (nt + 1)) (hk : k ≤ 40) (ha : a ≤ nt) (hB : ∀ v, v ≤ nt → gA M 42 (41 * v + k) = nI (h v) ∧ h v ≤ 23) : ∀ w o, o ≤ nt + 1 → nt + 1 < w + o → yt78 n0 k36 k58 w x2 (nI D) x4 x5 (nI k) (nI (mx D h (nt + 1) a)) (nI a) (nI (cnt (alB D h a) o)) (nI o) M = k58 x2 (nI D) x4 x5 (nI k) (nI (mx D h (nt + 1) (a + 1))) (nI (a + 1)) M
  | 0, o, ho, hw => by omega
  | w + 1, o, ho, hw => by
    show bX12_tells_78 n0 k36 k58 (yt78 n0 k36 k58 w) x2 (nI D) x4 x5 (nI k) (nI (mx D h (nt + 1) a)) (nI a) _ (nI o) M = _
    have D128 : D < 128 := Nat.lt_of_lt_of_le hD (p128 (by omega))
    have o13 : ¬ oob (gI M 13) 2 := by rw [h13]; exact nI_in (by omega) (by decide)
    have yq : gA M 2 (gI M 13).toNatClampNeg = nI nt := by rw [h13, nI_clamp (by omega)]; exact y2
    unfold bX12_tells_78
    by_cases g : o = nt + 1
    · rw [g]
      have l1 := mx_le D h (nt + 1) a
      have l2 := cnt_le (alB D h a) (nt + 1)
      have e : mx D h (nt + 1) (a + 1) = max (mx D h (nt + 1) a) (cnt (alB D h a) (nt + 1)) := rfl
      refine eq_f o13 (eq_t (by rw [yq]; exact nI_lt (by omega) (by omega)) ?_)
      unfold fX12_tells_169
      rw [show nI a + 1 = nI (a + 1) from nI_add a 1, e]
      by_cases z : cnt (alB D h a) (nt + 1) ≤ mx D h (nt + 1) a
      · rw [Nat.max_eq_left z]
        exact eq_t (nI_le z (by omega)) rfl
      · rw [Nat.max_eq_right (by omega)]
        exact eq_f (nI_ge (by omega) (by omega)) rfl
    · have k1 : nI o + 1 = nI (o + 1) := nI_add o 1
      have step : cnt (alB D h a) (o + 1) = cnt (alB D h a) o + b01 (alB D h a o) := rfl
      have ih := yml78 (n0 := n0) (x2 := x2) (x4 := x4) (x5 := x5) (k36 := k36) (k58 := k58) h13 hb y2 hnt hD hk ha hB w (o + 1) (by omega) (by omega)
      have go : ∀ u1, u1 = nI (b01 (alB D h a o)) → fX12_tells_146 n0 k36 k58 (yt78 n0 k36 k58 w) x2 (nI D) x4 x5 (nI k) (nI (mx D h (nt + 1) a)) (nI a) (nI o) (nI (cnt (alB D h a) o)) u1 M = k58 x2 (nI D) x4 x5 (nI k) (nI (mx D h (nt + 1) (a + 1))) (nI (a + 1)) M := fun u1 e => by
        unfold fX12_tells_146
        refine eq_e (v' := nI (cnt (alB D h a) (o + 1))) (by rw [e, nI_add, step]) ?_
        rw [k1]
        exact ih
      have no : alB D h a o = false → fX12_tells_145 n0 k36 k58 (yt78 n0 k36 k58 w) x2 (nI D) x4 x5 (nI k) (nI (mx D h (nt + 1) a)) (nI a) (nI o) (nI (cnt (alB D h a) o)) M = k58 x2 (nI D) x4 x5 (nI k) (nI (mx D h (nt + 1) (a + 1))) (nI (a + 1)) M := fun z => by
        unfold fX12_tells_145
        exact go 0 (by rw [z]; rfl)
      have st : ¬ gA M 2 (gI M 13).toNatClampNeg < nI o := by rw [yq]; exact fun u => by have := (nI_ltI (by omega) (by omega)).mp u; omega
      by_cases z1 : D / 2 ^ a % 2 = 1
      · by_cases z2 : D / 2 ^ o % 2 = 1
        · obtain ⟨h1, l1⟩ := hB a ha
          obtain ⟨h2, l2⟩ := hB o (by omega)
          refine eq_f o13 (eq_f st (eq_b (y7has2 D128 (by omega)) (eq_f (show ¬ bI (D / 2 ^ a % 2 = 1) = 0 by rw [bI_t z1]; decide) (eq_b (y7has2 D128 (by omega)) (eq_f (show ¬ bI (D / 2 ^ o % 2 = 1) = 0 by rw [bI_t z2]; decide) ?_)))))
          have ia : (nI (41 * a + k)).toNatClampNeg = 41 * a + k := nI_clamp (by omega)
          have io : (nI (41 * o + k)).toNatClampNeg = 41 * o + k := nI_clamp (by omega)
          simp only [y41Ix, ia, io, h1, h2]
          refine eq_f (nI_in (by omega) (by decide)) (eq_f (nI_in (by omega) (by decide)) ?_)
          by_cases y : h a = h o
          · exact eq_t (congrArg nI y) (go 1 (by rw [show alB D h a o = true from decide_eq_true ⟨z1, z2, y⟩]; rfl))
          · exact eq_f (fun u => y ((nI_eq (by omega) (by omega)).mp u)) (no (decide_eq_false (fun u => y u.2.2)))
        · exact eq_f o13 (eq_f st (eq_b (y7has2 D128 (by omega)) (eq_f (show ¬ bI (D / 2 ^ a % 2 = 1) = 0 by rw [bI_t z1]; decide) (eq_b (y7has2 D128 (by omega)) (eq_t (show bI (D / 2 ^ o % 2 = 1) = 0 from bI_f z2) (no (decide_eq_false (fun u => z2 u.2.1))))))))
      · exact eq_f o13 (eq_f st (eq_b (y7has2 D128 (by omega)) (eq_t (show bI (D / 2 ^ a % 2 = 1) = 0 from bI_f z1) (no (decide_eq_false (fun u => z1 u.1))))))
abbrev yt58 (n0 : Nat) (k36 : Int32 → Int32 → Int32 → Int32 → Int32 → Mem → Option (Int32 × Mem)) : Nat → Int32 → Int32 → Int32 → Int32 → Int32 → Int32 → Int32 → Mem → Option (Int32 × Mem) := loopN (bX12_tells_58 n0 k36) (fun _ _ _ _ _ _ _ _ => none)
theorem yml58 {n0 b D k nt : Nat} {h : Nat → Nat} {x2 x4 x5 : Int32} {k36 : Int32 → Int32 → Int32 → Int32 → Int32 → Mem → Option (Int32 × Mem)} {M : Mem} (hn : 1700 ≤ n0) (h13 : gI M 13 = nI b) (hb : b ≤ 1) (y2 : gA M 2 b = nI nt) (hnt : nt ≤ 6) (hD : D < 2 ^ (nt + 1)) (hk : k ≤ 40) (hB : ∀ v, v ≤ nt → gA M 42 (41 * v + k) = nI (h v) ∧ h v ≤ 23) : ∀ w a, a ≤ nt + 1 → nt + 1 < w + a → yt58 n0 k36 w x2 (nI D) x4 x5 (nI k) (nI (mx D h (nt + 1) a)) (nI a) M = if nI (mx D h (nt + 1) (nt + 1)) < x5 then k36 x2 (nI D) (nI k) (nI (mx D h (nt + 1) (nt + 1))) (nI (k + 1)) M else k36 x2 (nI D) x4 x5 (nI (k + 1)) M
  | 0, a, ha, hw => by omega
  | w + 1, a, ha, hw => by
    show bX12_tells_58 n0 k36 (yt58 n0 k36 w) x2 (nI D) x4 x5 (nI k) (nI (mx D h (nt + 1) a)) (nI a) M = _
    have o13 : ¬ oob (gI M 13) 2 := by rw [h13]; exact nI_in (by omega) (by decide)
    have yq : gA M 2 (gI M 13).toNatClampNeg = nI nt := by rw [h13, nI_clamp (by omega)]; exact y2
    unfold bX12_tells_58
    by_cases g : a = nt + 1
    · rw [g]
      refine eq_f o13 (eq_t (by rw [yq]; exact nI_lt (by omega) (by omega)) ?_)
      unfold fX12_tells_195
      rw [show nI k + 1 = nI (k + 1) from nI_add k 1]
    · refine eq_f o13 (eq_f (by rw [yq]; exact fun u => by have := (nI_ltI (by omega) (by omega)).mp u; omega) ?_)
      have e := yml78 (n0 := n0) (x2 := x2) (x4 := x4) (x5 := x5) (k36 := k36) (k58 := yt58 n0 k36 w) h13 hb y2 hnt hD hk (show a ≤ nt by omega) hB n0 0 (by omega) (by omega)
      exact e.trans (yml58 hn h13 hb y2 hnt hD hk hB w (a + 1) (by omega) (by omega))
abbrev xt69 (n0 : Nat) : Nat → Int32 → Int32 → Int32 → Int32 → Int32 → Int32 → Mem → Option (Int32 × Mem) := loopN (bX11_tells_69 n0) (fun _ _ _ _ _ _ _ => none)
abbrev yt36 (n0 : Nat) : Nat → Int32 → Int32 → Int32 → Int32 → Int32 → Mem → Option (Int32 × Mem) := loopN (bX12_tells_36 n0) (fun _ _ _ _ _ _ => none)
theorem telL {n0 b D nt m : Nat} {hh : Nat → Nat → Nat} {x2 : Int32} {MX MY : Mem} (hn : 1700 ≤ n0) (h13 : gI MY 13 = nI b) (hb : b ≤ 1) (y2 : gA MY 2 b = nI nt) (hnt : nt ≤ 6) (hD : D < 2 ^ (nt + 1)) (hD0 : ¬ D = 0) (hm : m ≤ 9999) (h28 : gA MY 28 0 = nI m) (hX : ∀ v j, v ≤ nt → j ≤ min 40 (9999 - m) → gA MX (83 + v) j = nI (hh v j) ∧ hh v j ≤ 23) (hY : ∀ v j, v ≤ nt → j ≤ min 40 (9999 - m) → gA MY 42 (41 * v + j) = nI (hh v j) ∧ hh v j ≤ 23) : ∀ w k be le, k ≤ min 40 (9999 - m) + 1 → min 40 (9999 - m) + 1 < w + k → be ≤ 40 → le ≤ 7 → ∃ r, xt69 n0 w x2 (nI D) (nI (min 40 (9999 - m))) (nI be) (nI le) (nI k) MX = some (r, MX) ∧ yt36 n0 w x2 (nI D) (nI be) (nI le) (nI k) MY = some (r, MY)
  | 0, k, _, _, hk, hw, _, _ => by omega
  | w + 1, k, be, le, hk, hw, hbe, hle => by
    show ∃ r, bX11_tells_69 n0 (xt69 n0 w) x2 (nI D) (nI (min 40 (9999 - m))) (nI be) (nI le) (nI k) MX = _ ∧ bX12_tells_36 n0 (yt36 n0 w) x2 (nI D) (nI be) (nI le) (nI k) MY = _
    have D128 : D < 128 := Nat.lt_of_lt_of_le hD (p128 (by omega))
    have nm : ¬ nI be = -1 := nI_m1 (by omega)
    unfold bX11_tells_69 bX12_tells_36
    by_cases g : k = min 40 (9999 - m) + 1
    · have a0 := yahF (n0 := n0) (lo := 0) (hi := 40) (k := k) h28 hm (by decide) (by decide) (by omega) (by omega)
      have x0 : nI (min 40 (9999 - m)) < nI k := nI_lt (by omega) (by omega)
      unfold fX12_tells_201
      by_cases z : x2 = 0
      · exact ⟨nI be, eq_t x0 (eq_t z rfl), eq_b a0 (eq_t rfl (eq_f nm (eq_t z rfl)))⟩
      · exact ⟨nI le, eq_t x0 (eq_f z rfl), eq_b a0 (eq_t rfl (eq_f nm (eq_f z rfl)))⟩
    · have a1 := yahT (n0 := n0) (lo := 0) (hi := 40) (k := k) h28 (by omega) (by omega) (by decide) (by omega)
      have e1 := xml (n0 := n0) (h := fun v => hh v k) hn hnt hD (show k ≤ 40 by omega) (fun v hv => hX v k hv (by omega))
      have e2 := yml58 (n0 := n0) (h := fun v => hh v k) (x2 := x2) (x4 := nI be) (x5 := nI le) (k36 := yt36 n0 w) hn h13 hb y2 hnt hD (show k ≤ 40 by omega) (fun v hv => hY v k hv (by omega)) n0 0 (by omega) (by omega)
      have l1 := mx_le D (fun v => hh v k) (nt + 1) (nt + 1)
      have st : ¬ nI (min 40 (9999 - m)) < nI k := fun u => by have := (nI_ltI (by omega) (by omega)).mp u; omega
      have k1 : nI k + 1 = nI (k + 1) := nI_add k 1
      by_cases z : mx D (fun v => hh v k) (nt + 1) (nt + 1) < le
      · obtain ⟨r, r1, r2⟩ := telL (x2 := x2) hn h13 hb y2 hnt hD hD0 hm h28 hX hY w (k + 1) k (mx D (fun v => hh v k) (nt + 1) (nt + 1)) (by omega) (by omega) (by omega) (by omega)
        refine ⟨r, eq_f st (eq_b e1 (eq_f (nI_ge z (by omega)) ?_)), eq_b a1 (eq_f (show ¬ (1 : Int32) = 0 by decide) (eq_f (nI_ne0 (by omega) (by omega)) (Eq.trans e2 ?_)))⟩
        · unfold fX11_tells_103
          rw [k1]; exact r1
        · rw [if_pos (nI_lt z (by omega))]
          exact r2
      · obtain ⟨r, r1, r2⟩ := telL (x2 := x2) hn h13 hb y2 hnt hD hD0 hm h28 hX hY w (k + 1) be le (by omega) (by omega) hbe hle
        refine ⟨r, eq_f st (eq_b e1 (eq_t (nI_le (by omega) (by omega)) ?_)), eq_b a1 (eq_f (show ¬ (1 : Int32) = 0 by decide) (eq_f (nI_ne0 (by omega) (by omega)) (Eq.trans e2 ?_)))⟩
        · unfold fX11_tells_103
          rw [k1]; exact r1
        · rw [if_neg (fun u => by have := (nI_ltI (by omega) (by omega)).mp u; omega)]
          exact r2
theorem cTells {n0 : Nat} {x y : Int32} {MX MY : Mem} (hn : 1700 ≤ n0) (h : R n0 MX MY) : Cal n0 (fX11_tells n0 x y MX) (fX12_tells n0 x y MY) := by
  have h0 := h
  obtain ⟨q, b, T, nr, C, m, pm, s, h⟩ := h
  obtain ⟨h1, h2, h3, h4, _⟩ := id h
  obtain ⟨o1, o2, o3, _⟩ := h1.2.2.2.1.2.1
  have hm := h2.1
  unfold fX11_tells fX12_tells
  rcases isCo h1 x with ⟨c, hc, rfl, e1, e2⟩ | ⟨z, e1, e2⟩
  · rcases yisc (n0 := n0) 2 (x := y) (hi := 1) (by decide) (by decide) with ⟨k, hk, rfl, e⟩ | ⟨z, e⟩
    · obtain ⟨D, X1, Y1, d1, d2, d3, d4, d5, d6, d7⟩ := held2 hn h hc
      have D128 : D < 128 := Nat.lt_of_lt_of_le d1 (p128 (by omega))
      have YT1 := h1.2.2.2.2.1.yf d5 hP28
      have m28 : gA Y1 28 0 = nI m := m28f h4.1.1 d5 hPn
      have xh : ∀ r, (if nI D = 0 then some ((-1 : Int32), X1) else bnd (imin (40 : Int32) ((9999 : Int32) - (gI X1 1281))) fun x4_50 => (fX5_mostLeft n0 (nI D) (0 : Int32) X1).bind fun z61 => fX11_tells_69 n0 (nI k) (nI D) x4_50 (0 : Int32) z61.1 (1 : Int32) z61.2) = r → ((fX9_isCorner n0 (gR MX 1) (nI c) MX).bind fun z5 => if z5.1 = 0 then some ((-1 : Int32), z5.2) else if nI k < 0 then some ((-1 : Int32), z5.2) else if nI k ≤ (1 : Int32) then (fX11_findHeld n0 (nI c) z5.2).bind fun z24 => if z24.1 = 0 then some ((-1 : Int32), z24.2) else bnd (imin (40 : Int32) ((9999 : Int32) - (gI z24.2 1281))) fun x4_50 => (fX5_mostLeft n0 z24.1 (0 : Int32) z24.2).bind fun z61 => fX11_tells_69 n0 (nI k) z24.1 x4_50 (0 : Int32) z61.1 (1 : Int32) z61.2 else some ((-1 : Int32), z5.2)) = r := fun r hr => eq_b e1 (eq_f (show ¬ (1 : Int32) = 0 by decide) (eq_f (nI_nn (by omega)) (eq_t (nI_le (b := 1) (by omega) (by decide)) (eq_b d2 hr))))
      have yh : ∀ r, fX12_tells_36 n0 (nI k) (nI D) (-1) 100000000 0 Y1 = r → ((fX12_isCorner n0 (nI c) MY).bind fun z2 => if z2.1 = 0 then some ((-1 : Int32), z2.2) else (fX12_is n0 (nI k) (0 : Int32) (1 : Int32) z2.2).bind fun z11 => if z11.1 = 0 then some ((-1 : Int32), z11.2) else (fX12_heldBits n0 (nI c) z11.2).bind fun z21 => fX12_tells_36 n0 (nI k) z21.1 (-1 : Int32) (100000000 : Int32) (0 : Int32) z21.2) = r := fun r hr => eq_b e2 (eq_f (show ¬ (1 : Int32) = 0 by decide) (eq_b (e MY) (eq_f (show ¬ (1 : Int32) = 0 by decide) (eq_b d3 hr))))
      obtain ⟨w, rfl⟩ : ∃ w, n0 = w + 1 := ⟨n0 - 1, by omega⟩
      have a1 := yahT (n0 := w + 1) (lo := 0) (hi := 40) (k := 0) m28 (by omega) (by omega) (by decide) (by omega)
      by_cases g : D = 0
      · refine Cal.scr (r := -1) h (xh _ (eq_t (by rw [g]; rfl) rfl)) (yh _ ?_) (hAsc d4) (hPsc d5)
        show bX12_tells_36 (w + 1) (yt36 (w + 1) w) (nI k) (nI D) (-1) 100000000 0 Y1 = _
        unfold bX12_tells_36
        refine eq_b a1 (eq_f (show ¬ (1 : Int32) = 0 by decide) (eq_t (by rw [g]; rfl) ?_))
        unfold fX12_tells_201
        exact eq_t rfl rfl
      · have hX : ∀ v j, v ≤ T.nt → j ≤ min 40 (9999 - m) → gA X1 (83 + v) j = nI (hby T c m v j) ∧ hby T c m v j ≤ 23 := fun v j hv hj => ⟨d6 g v j hv hj, hrs_le h1.2.2.2.2.1 hc ⟨thI_ok hv, Nat.zero_le _⟩ (by omega)⟩
        have hYY : ∀ v j, v ≤ T.nt → j ≤ min 40 (9999 - m) → gA Y1 42 (41 * v + j) = nI (hby T c m v j) ∧ hby T c m v j ≤ 23 := fun v j hv hj => ⟨d7 v j hv hj, (hX v j hv hj).2⟩
        have e3 := xml (n0 := w + 1) (h := fun v => hby T c m v 0) hn o1 d1 (show 0 ≤ 40 by decide) (fun v hv => hX v 0 hv (by omega))
        have e4 := yml58 (n0 := w + 1) (h := fun v => hby T c m v 0) (x2 := nI k) (x4 := -1) (x5 := 100000000) (k36 := yt36 (w + 1) w) hn YT1.2.2.2.1 YT1.2.2.1 YT1.2.2.2.2.1 o1 d1 (show 0 ≤ 40 by decide) (fun v hv => hYY v 0 hv (by omega)) (w + 1) 0 (by omega) (by omega)
        have l1 := mx_le D (fun v => hby T c m v 0) (T.nt + 1) (T.nt + 1)
        obtain ⟨r, r1, r2⟩ := telL (n0 := w + 1) (b := b) (x2 := nI k) (hh := hby T c m) hn YT1.2.2.2.1 YT1.2.2.1 YT1.2.2.2.2.1 o1 d1 g hm m28 hX hYY w 1 0 (mx D (fun v => hby T c m v 0) (T.nt + 1) (T.nt + 1)) (by omega) (by omega) (by omega) (by omega)
        obtain ⟨r', r3, r4⟩ := telL (n0 := w + 1) (b := b) (x2 := nI k) (hh := hby T c m) hn YT1.2.2.2.1 YT1.2.2.1 YT1.2.2.2.2.1 o1 d1 g hm m28 hX hYY (w + 1) 1 0 (mx D (fun v => hby T c m v 0) (T.nt + 1) (T.nt + 1)) (by omega) (by omega) (by omega) (by omega)
        have i1281 : gI X1 1281 = nI m := (d4.2.2.2.2 1281 (by decide)).trans h3.2.2.1
        -- the same answer with one more or less of fuel
        have mono : ∀ w' k' be le, k' ≤ min 40 (9999 - m) + 1 → min 40 (9999 - m) + 1 < w' + k' → xt69 (w + 1) (w' + 1) (nI k) (nI D) (nI (min 40 (9999 - m))) (nI be) (nI le) (nI k') X1 = xt69 (w + 1) w' (nI k) (nI D) (nI (min 40 (9999 - m))) (nI be) (nI le) (nI k') X1 := fun w' => by
          induction w' with
          | zero => intro k' be le h1' h2'; omega
          | succ w' ih =>
            intro k' be le h1' h2'
            show bX11_tells_69 (w + 1) (xt69 (w + 1) (w' + 1)) (nI k) (nI D) (nI (min 40 (9999 - m))) (nI be) (nI le) (nI k') X1 = bX11_tells_69 (w + 1) (xt69 (w + 1) w') (nI k) (nI D) (nI (min 40 (9999 - m))) (nI be) (nI le) (nI k') X1
            by_cases z : k' = min 40 (9999 - m) + 1
            · unfold bX11_tells_69
              rw [if_pos (nI_lt (by omega) (by omega)), if_pos (nI_lt (by omega) (by omega))]
            · have e5 := xml (n0 := w + 1) (h := fun v => hby T c m v k') hn o1 d1 (show k' ≤ 40 by omega) (fun v hv => hX v k' hv (by omega))
              have k1 : nI k' + 1 = nI (k' + 1) := nI_add k' 1
              unfold bX11_tells_69
              rw [e5]
              show (if _ then _ else (if nI le ≤ nI _ then fX11_tells_103 _ _ _ _ _ _ _ _ _ else fX11_tells_103 _ _ _ _ _ _ _ _ _)) = (if _ then _ else (if nI le ≤ nI _ then fX11_tells_103 _ _ _ _ _ _ _ _ _ else fX11_tells_103 _ _ _ _ _ _ _ _ _))
              unfold fX11_tells_103
              rw [k1, ih (k' + 1) be le (by omega) (by omega), ih (k' + 1) k' _ (by omega) (by omega)]
        have rr : r' = r := by
          have := (mono w 1 0 (mx D (fun v => hby T c m v 0) (T.nt + 1) (T.nt + 1)) (by omega) (by omega)).symm.trans r3
          exact ((Prod.mk.inj (Option.some.inj (r1.symm.trans this))).1).symm
        refine Cal.scr (r := r) h (xh _ (eq_f (nI_ne0 (by omega) (by omega)) (eq_e (v' := nI (min 40 (9999 - m))) ?_ (eq_b e3 ?_)))) (yh _ ?_) (hAsc d4) (hPsc d5)
        · rw [i1281, show (9999 : Int32) - nI m = nI (9999 - m) from nI_subN hm, show (40 : Int32) = nI 40 from rfl, imin_nI (by decide) (by omega)]
        · rw [← rr]; exact r3
        · show bX12_tells_36 (w + 1) (yt36 (w + 1) w) (nI k) (nI D) (-1) 100000000 0 Y1 = _
          unfold bX12_tells_36
          refine eq_b a1 (eq_f (show ¬ (1 : Int32) = 0 by decide) (eq_f (nI_ne0 (by omega) (by omega)) (Eq.trans e4 ?_)))
          exact eq_t (nI_lt (b := 100000000) (by omega) (by decide)) r2
    · refine Cal.same (r := -1) h0 (eq_b e1 (eq_f (show ¬ (1 : Int32) = 0 by decide) ?_)) (eq_b e2 (eq_f (show ¬ (1 : Int32) = 0 by decide) (eq_b (e MY) (eq_t rfl rfl))))
      by_cases g2 : y < 0
      · exact eq_t g2 rfl
      · refine eq_f g2 (eq_f (fun u => ?_) rfl)
        have z2 := z.resolve_left g2
        rw [i_le] at z2 u
        have a1 : (nI 2).toInt = 2 := rfl
        have a2 : (1 : Int32).toInt = 1 := rfl
        omega
  · exact Cal.same (r := -1) h0 (eq_b e1 (eq_t rfl rfl)) (eq_b e2 (eq_t rfl rfl))
end
section
/-! LETTERS OF NAMES ON BOTH SIDES -/
theorem e27_div {f : Nat → Nat} {j : Nat} : ∀ r, (∀ i, i < j + r → f i ≤ 26) → e27 f (j + r) / 27 ^ r = e27 f j
  | 0, _ => Nat.div_one _
  | r + 1, h => by
    have e : e27 f (j + (r + 1)) = 27 * e27 f (j + r) + f (j + r) := rfl
    have l := h (j + r) (by omega)
    rw [e, Nat.pow_succ, Nat.mul_comm (27 ^ r) 27, ← Nat.div_div_eq_div_mul, show (27 * e27 f (j + r) + f (j + r)) / 27 = e27 f (j + r) by omega]
    exact e27_div r (fun i hi => h i (by omega))
theorem e256_div {f : Nat → Nat} {j : Nat} : ∀ r, (∀ i, i < j + r → f i ≤ 26) → e256 f (j + r) / 256 ^ r = e256 f j
  | 0, _ => Nat.div_one _
  | r + 1, h => by
    have e : e256 f (j + (r + 1)) = 256 * e256 f (j + r) + (f (j + r) + 96) := rfl
    have l := h (j + r) (by omega)
    rw [e, Nat.pow_succ, Nat.mul_comm (256 ^ r) 256, ← Nat.div_div_eq_div_mul, show (256 * e256 f (j + r) + (f (j + r) + 96)) / 256 = e256 f (j + r) by omega]
    exact e256_div r (fun i hi => h i (by omega))
/-- letter k of a word of n letters -/
def ltr (f : Nat → Nat) (n k : Nat) : Nat := if k < n then f k else 0
theorem ltr_v {f : Nat → Nat} {n k : Nat} (hn : n ≤ 6) (hk : k ≤ 5) (hf : ∀ i, i < n → 1 ≤ f i ∧ f i ≤ 26) : e27 f n * 27 ^ (6 - n) / 27 ^ (5 - k) % 27 = ltr f n k := by
  unfold ltr
  by_cases g : k < n
  · rw [if_pos g, show 5 - k = (6 - n) + (n - 1 - k) by omega, Nat.pow_add, ← Nat.div_div_eq_div_mul, Nat.mul_div_cancel _ (Nat.pow_pos (by decide))]
    have e := e27_div (f := f) (j := k + 1) (n - 1 - k) (fun i hi => (hf i (by omega)).2)
    rw [show k + 1 + (n - 1 - k) = n by omega] at e
    rw [e]
    have e2 : e27 f (k + 1) = 27 * e27 f k + f k := rfl
    have l := (hf k g).2
    rw [e2]
    omega
  · rw [if_neg g, show 6 - n = (5 - k) + (k + 1 - n) by omega, Nat.pow_add, Nat.mul_comm (27 ^ (5 - k)), ← Nat.mul_assoc, Nat.mul_div_cancel _ (Nat.pow_pos (by decide)), show k + 1 - n = (k - n) + 1 by omega, Nat.pow_succ, ← Nat.mul_assoc]
    exact Nat.mul_mod_left _ _
abbrev xlL (n0 : Nat) : Nat → Int32 → Int32 → Int32 → Mem → Option (Int32 × Mem) := loopN (bX8_letterOf_4 n0) (fun _ _ _ _ => none)
theorem xlet4 {n0 k : Nat} {M : Mem} (hk : k ≤ 5) : ∀ w r v, r < w → v < 2 ^ 31 → k + r ≤ 5 → xlL n0 w (nI k) (nI v) (nI (k + r)) M = some (nI (v / 27 ^ r % 27), M)
  | 0, r, v, h, _, _ => by omega
  | w + 1, r, v, h, hv, h5 => by
    show bX8_letterOf_4 n0 (xlL n0 w) (nI k) (nI v) (nI (k + r)) M = _
    unfold bX8_letterOf_4
    by_cases g : r = 0
    · subst g
      refine eq_t (by rw [Nat.add_zero]; exact Int32.le_refl _) (eq_f (by decide) ?_)
      rw [show (27 : Int32) = nI 27 from rfl, rem_nI (by omega) (by decide), Nat.pow_zero, Nat.div_one]
    · obtain ⟨r', rfl⟩ : ∃ r', r = r' + 1 := ⟨r - 1, by omega⟩
      refine eq_f (nI_ge (by omega) (by omega)) (eq_f (by decide) (eq_e (v' := nI (v / 27)) (by rw [show (27 : Int32) = nI 27 from rfl, nI_div (by omega) (by decide)]) ?_))
      rw [show k + (r' + 1) = (k + r') + 1 by omega, nIm1]
      have e := xlet4 (n0 := n0) (M := M) hk w r' (v / 27) (by omega) (by omega) (by omega)
      rw [Nat.div_div_eq_div_mul, Nat.mul_comm, ← Nat.pow_succ] at e
      exact e
theorem xletter {n0 k v : Nat} {M : Mem} (hn : 1700 ≤ n0) (hk : k ≤ 5) (hv : v < 2 ^ 31) : fX8_letterOf n0 (nI v) (nI k) M = some (nI (v / 27 ^ (5 - k) % 27), M) := by
  have e := xlet4 (n0 := n0) (M := M) hk n0 (5 - k) v (by omega) hv (by omega)
  rw [show k + (5 - k) = 5 by omega] at e
  exact e
theorem lshr {a d : Nat} {D : Int64} (hD : (D.toBitVec.smod 64).toNat = d) (h : a < 2 ^ 62) : lN a >>> D = lN (a / 2 ^ d) := by
  have hd : a / 2 ^ d ≤ a := Nat.div_le_self _ _
  apply Int64.toInt_inj.mp
  have e : (lN a >>> D).toInt = (lN a).toInt >>> d := by
    rw [← hD]
    exact BitVec.toInt_sshiftRight ..
  rw [e, Int.shiftRight_eq_div_pow, pk_lT (by omega), pk_lT (by omega)]
  rfl
theorem sm8 : ∀ r, r < 6 → ((((nI (8 * r)).toInt64 &&& 63) : Int64).toBitVec.smod 64).toNat = 8 * r := by decide +kernel
theorem e256_pos {f : Nat → Nat} {j : Nat} (hj : 0 < j) : 0 < e256 f j := by
  obtain ⟨i, rfl⟩ : ∃ i, j = i + 1 := ⟨j - 1, by omega⟩
  have : e256 f (i + 1) = 256 * e256 f i + (f i + 96) := rfl
  omega
abbrev yltL (n0 : Nat) : Nat → Int32 → Int64 → Int32 → Int64 → Mem → Option (Int32 × Mem) := loopN (bX12_letter_58 n0) (fun _ _ _ _ _ => none)
theorem ylet58 {n0 k n : Nat} {f : Nat → Nat} {M : Mem} (hn6 : n ≤ 6) (hk : k ≤ 5) (hf : ∀ i, i < n → 1 ≤ f i ∧ f i ≤ 26) : ∀ w j, j ≤ n → j < w → yltL n0 w (nI k) (lN (e256 f n)) (nI (n - j)) (lN (e256 f j)) M = some (nI (ltr f n k), M)
  | 0, j, _, h => by omega
  | w + 1, j, hj, h => by
    show bX12_letter_58 n0 (yltL n0 w) (nI k) (lN (e256 f n)) (nI (n - j)) (lN (e256 f j)) M = _
    have bd : ∀ i, i ≤ n → e256 f i < 2 ^ 48 := fun i hi => by
      have e := e256_lt (f := f) (n := i) (fun q hq => (hf q (by omega)).2)
      have : 256 ^ i ≤ 256 ^ 6 := Nat.pow_le_pow_right (by decide) (by omega)
      have : (256 : Nat) ^ 6 = 2 ^ 48 := by decide
      omega
    have bj := bd j hj
    have bn := bd n (Nat.le_refl _)
    unfold bX12_letter_58
    by_cases g : j = 0
    · subst g
      refine eq_t (by rw [show lN (e256 f 0) = zL 0 from rfl, show (0 : Int64) = zL 0 from rfl]; decide) ?_
      rw [Nat.sub_zero]
      unfold ltr
      by_cases z : k < n
      · rw [if_pos z]
        refine eq_t (nI_lt z (by omega)) ?_
        have e1 : (8 : Int32) * (nI n - 1 - nI k) = nI (8 * (n - 1 - k)) := by
          rw [show nI n - 1 = nI (n - 1) by rw [show n = (n - 1) + 1 by omega, nIs]; rfl, nI_subN (by omega), show (8 : Int32) = nI 8 from rfl, nI_mul]
        have e2 := e256_div (f := f) (j := k + 1) (n - 1 - k) (fun i hi => (hf i (by omega)).2)
        rw [show k + 1 + (n - 1 - k) = n by omega] at e2
        have e3 : e256 f (k + 1) = 256 * e256 f k + (f k + 96) := rfl
        obtain ⟨l1, l2⟩ := hf k z
        rw [e1, lshr (sm8 (n - 1 - k) (by omega)) (by omega), show 2 ^ (8 * (n - 1 - k)) = 256 ^ (n - 1 - k) by rw [Nat.pow_mul], e2, show (255 : Int64) = lN 255 from rfl, lAnd, show 255 = 2 ^ 8 - 1 from rfl, Nat.and_two_pow_sub_one_eq_mod, lN_i, e3, show (256 * e256 f k + (f k + 96)) % 2 ^ 8 = (f k - 1) + 97 by omega, show (97 : Int32) = nI 97 from rfl, nI_subN (by omega), Nat.add_sub_cancel, show nI (f k - 1) + 1 = nI (f k - 1 + 1) from nI_add _ 1, show f k - 1 + 1 = f k by omega]
      · rw [if_neg z]
        exact eq_f (fun u => z ((nI_ltI (by omega) (by omega)).mp u)) rfl
    · obtain ⟨i, rfl⟩ : ∃ i, j = i + 1 := ⟨j - 1, by omega⟩
      have ps := e256_pos (f := f) (j := i + 1) (by omega)
      have e3 : e256 f (i + 1) = 256 * e256 f i + (f i + 96) := rfl
      obtain ⟨l1, l2⟩ := hf i (by omega)
      refine eq_f ?_ (eq_e (v' := lN (e256 f i)) ?_ ?_)
      · have lp : (0 : Int64) < lN (e256 f (i + 1)) := (pk_lLT (a := 0) (b := e256 f (i + 1)) (by decide) (by omega)).mpr ps
        unfold lg_cmp
        rw [if_pos lp]
        decide
      · rw [lshr (d := 8) (by decide) (by omega), e3]
        congr 1
        omega
      · rw [show nI (n - (i + 1)) + 1 = nI (n - (i + 1) + 1) from nI_add _ 1, show n - (i + 1) + 1 = n - i by omega]
        exact ylet58 hn6 hk hf w i (by omega) (by omega)
theorem nm2 {n0 v w k : Nat} {MX MY : Mem} (hn : 1700 ≤ n0) (hk : k ≤ 5) (h : WR v w) : ∃ r, fX8_letterOf n0 (nI v) (nI k) MX = some (r, MX) ∧ fX12_letter_58 n0 (nI k) (lN w) 0 (lN w) MY = some (r, MY) := by
  have hv := h.v_lt
  obtain ⟨f, n, n1, n6, hf, rfl, rfl⟩ := h
  refine ⟨nI (ltr f n k), ?_, ?_⟩
  · rw [xletter hn hk hv, ltr_v n6 hk hf]
  · have e := ylet58 (n0 := n0) (k := k) (M := MY) n6 hk hf n0 n (Nat.le_refl _) (by omega)
    rw [Nat.sub_self] at e
    exact e
theorem cLetter {n0 : Nat} {x y z : Int32} {MX MY : Mem} (hn : 1700 ≤ n0) (h : R n0 MX MY) : Cal n0 (fX11_letter n0 x y z MX) (fX12_letter n0 x y z MY) := by
  have h0 := h
  obtain ⟨q, b, T, nr, C, m, pm, s, h⟩ := h
  obtain ⟨h1, h2, h3, h4, _⟩ := id h
  obtain ⟨o1, o2, o3, _⟩ := h1.2.2.2.1.2.1
  have hb := h1.2.2.2.2.1.2.2.1
  have h13 := h1.2.2.2.2.1.2.2.2.1
  have cb : (nI b).toNatClampNeg = b := nI_clamp (by omega)
  have ob : ¬ oob (nI b) 2 := nI_in (by omega) (by decide)
  obtain ⟨⟨t1, t2, t3⟩, ⟨c1, c2, c3⟩, ⟨d1, d2, d3⟩⟩ := h1.2.2.2.2.2.1.1
  unfold fX11_letter fX12_letter
  -- the letter's number
  rcases yisc (n0 := n0) 6 (x := z) (hi := 5) (by decide) (by decide) with ⟨k, hk, rfl, ek⟩ | ⟨zk, ek⟩
  · have xk : ∀ {α : Type} {a c : α}, (if nI k < 0 then a else if nI k < (6 : Int32) then c else a) = c := fun {α a c} => eq_f (nI_nn (by omega)) (eq_t (nI_lt (b := 6) hk (by decide)) rfl)
    rw [xk]
    rcases yisc (n0 := n0) 3 (x := x) (hi := 2) (by decide) (by decide) with ⟨sx, hs, rfl, es⟩ | ⟨zs, es⟩
    · have two : ∀ {n off arr cap : Nat} {fi : Nat → Int64} {X Y : Option (Int32 × Mem)}, n ≤ 6 → NmS cap n (gA MX (q + off)) fi → fX12_manyOf n0 (gI MY 13) (nI sx) MY = some (nI n, MY) → (∀ i, i < n → fX12_nameOf n0 (gI MY 13) (nI sx) (nI i) MY = some (fi i, MY)) → (∀ i r, i < n → y = nI i → fX8_letterOf n0 (gA MX (q + off) i) (nI k) MX = some (r, MX) → X = some (r, MX)) → (y < 0 ∨ nI n ≤ y → X = some (-1, MX)) → Y = ((fX12_is n0 (nI sx) (0 : Int32) (2 : Int32) MY).bind fun z3 => if z3.1 = 0 then some ((-1 : Int32), z3.2) else (fX12_manyOf n0 (gI z3.2 13) (nI sx) z3.2).bind fun z17 => (fX12_is n0 y (0 : Int32) (z17.1 - (1 : Int32)) z17.2).bind fun z22 => if z22.1 = 0 then some ((-1 : Int32), z22.2) else (fX12_is n0 (nI k) (0 : Int32) (5 : Int32) z22.2).bind fun z31 => if z31.1 = 0 then some ((-1 : Int32), z31.2) else (fX12_nameOf n0 (gI z31.2 13) (nI sx) y z31.2).bind fun z46 => fX12_letter_58 n0 (nI k) z46.1 (0 : Int32) z46.1 z46.2) → Cal n0 X Y := fun {n off arr cap fi X Y} hn6 hN hM hNm hX hX0 hY => by
        rcases yis (n0 := n0) (n := n) (x := y) (hi := nI n - 1) (by omega) rfl with ⟨i, hi, rfl, ei⟩ | ⟨zi, ei⟩
        · obtain ⟨v, w, hw, e1, e2⟩ := hN.2 i hi
          obtain ⟨r, r1, r2⟩ := nm2 (n0 := n0) (k := k) (MX := MX) (MY := MY) hn (by omega) hw
          refine Cal.same (r := r) h0 (hX i r hi rfl (by rw [e1]; exact r1)) (hY.trans (eq_b (es MY) (eq_f (show ¬ (1 : Int32) = 0 by decide) (eq_b hM (eq_b (ei MY) (eq_f (show ¬ (1 : Int32) = 0 by decide) (eq_b (ek MY) (eq_f (show ¬ (1 : Int32) = 0 by decide) (eq_b (hNm i hi) ?_)))))))))
          show fX12_letter_58 n0 (nI k) (fi i) 0 (fi i) MY = _
          rw [e2]
          exact r2
        · exact Cal.same (r := -1) h0 (hX0 zi) (hY.trans (eq_b (es MY) (eq_f (show ¬ (1 : Int32) = 0 by decide) (eq_b hM (eq_b (ei MY) (eq_t rfl rfl))))))
      rcases (show sx = 0 ∨ sx = 1 ∨ sx = 2 by omega) with rfl | rfl | rfl
      · refine two (n := T.nt) (off := 1) (arr := 2) (cap := 6) (fi := fun i => gB MY 18 (6 * b + i)) o1 t3 ?_ (fun i hi => ?_) (fun i r hi hy hr => ?_) (fun zi => ?_) rfl
        · unfold fX12_manyOf
          rw [h13]
          exact eq_t rfl (eq_f ob (by rw [cb, t2]))
        · unfold fX12_nameOf
          rw [h13, y6Ix]
          exact eq_t rfl (eq_f (nI_in (by omega) (by decide)) (by rw [nI_clamp (by omega)]))
        · subst hy
          refine eq_t rfl (eq_b (z := (1, MX)) (by rw [h1.2.1]; exact xTht t1 o1 hi) (eq_f (show ¬ (1 : Int32) = 0 by decide) (eq_f (nI_in (by omega) (by decide)) (eq_b (z := (r, MX)) ?_ rfl))))
          show fX8_letterOf n0 (gA MX (gR MX 1 + 1) (nI i).toNatClampNeg) (nI k) MX = _
          rw [h1.2.1, nI_clamp (by omega)]
          exact hr
        · exact eq_t rfl (eq_b (z := (0, MX)) (by rw [h1.2.1]; exact xThf t1 zi) (eq_t rfl rfl))
      · refine two (n := T.nc) (off := 4) (arr := 5) (cap := 5) (fi := fun i => gB MY 19 (5 * b + i)) (by omega) c3 ?_ (fun i hi => ?_) (fun i r hi hy hr => ?_) (fun zi => ?_) rfl
        · unfold fX12_manyOf
          rw [h13]
          exact eq_f (by decide) (eq_t rfl (eq_f ob (by rw [cb, c2])))
        · unfold fX12_nameOf
          rw [h13, yIx]
          exact eq_f (by decide) (eq_t rfl (eq_f (nI_in (by omega) (by decide)) (by rw [nI_clamp (by omega)])))
        · subst hy
          refine eq_f (by decide) (eq_t rfl (eq_b (z := (1, MX)) (by rw [h1.2.1]; exact xCot c1 (by omega) hi) (eq_f (show ¬ (1 : Int32) = 0 by decide) (eq_f (nI_in (by omega) (by decide)) (eq_b (z := (r, MX)) ?_ rfl)))))
          show fX8_letterOf n0 (gA MX (gR MX 1 + 4) (nI i).toNatClampNeg) (nI k) MX = _
          rw [h1.2.1, nI_clamp (by omega)]
          exact hr
        · exact eq_f (by decide) (eq_t rfl (eq_b (z := (0, MX)) (by rw [h1.2.1]; exact xCof c1 zi) (eq_t rfl rfl)))
      · refine two (n := T.nd) (off := 9) (arr := 10) (cap := 6) (fi := fun i => gB MY 20 (6 * b + i)) o3 d3 ?_ (fun i hi => ?_) (fun i r hi hy hr => ?_) (fun zi => ?_) rfl
        · unfold fX12_manyOf
          rw [h13]
          exact eq_f (by decide) (eq_f (by decide) (eq_f ob (by rw [cb, d2])))
        · unfold fX12_nameOf
          rw [h13, y6Ix]
          exact eq_f (by decide) (eq_f (by decide) (eq_f (nI_in (by omega) (by decide)) (by rw [nI_clamp (by omega)])))
        · subst hy
          refine eq_f (by decide) (eq_f (by decide) (eq_t rfl (eq_b (z := (1, MX)) (by rw [h1.2.1]; exact xDot d1 o3 hi) (eq_f (show ¬ (1 : Int32) = 0 by decide) (eq_f (nI_in (by omega) (by decide)) (eq_b (z := (r, MX)) ?_ rfl))))))
          show fX8_letterOf n0 (gA MX (gR MX 1 + 9) (nI i).toNatClampNeg) (nI k) MX = _
          rw [h1.2.1, nI_clamp (by omega)]
          exact hr
        · exact eq_f (by decide) (eq_f (by decide) (eq_t rfl (eq_b (z := (0, MX)) (by rw [h1.2.1]; exact xDof d1 zi) (eq_t rfl rfl))))
    · refine Cal.same (r := -1) h0 ?_ (eq_b (es MY) (eq_t rfl rfl))
      refine eq_f ?_ (eq_f ?_ (eq_f ?_ rfl))
      · rintro rfl; exact absurd zs (by decide)
      · rintro rfl; exact absurd zs (by decide)
      · rintro rfl; exact absurd zs (by decide)
  · have xk : ∀ {α : Type} {a c : α}, (if z < 0 then a else if z < (6 : Int32) then c else a) = a := fun {α a c} => by
      by_cases g : z < 0
      · exact eq_t g rfl
      · refine eq_f g (eq_f (fun u => ?_) rfl)
        have := zk.resolve_left g
        rw [i_le] at this
        rw [i_lt] at u
        have a1 : (nI 6).toInt = 6 := rfl
        have a2 : (6 : Int32).toInt = 6 := rfl
        omega
    refine Cal.same (r := -1) h0 xk ?_
    rcases yisc (n0 := n0) 3 (x := x) (hi := 2) (by decide) (by decide) with ⟨sx, hs, rfl, es⟩ | ⟨zs, es⟩
    · refine eq_b (es MY) (eq_f (show ¬ (1 : Int32) = 0 by decide) ?_)
      obtain ⟨n, hn6, hM⟩ : ∃ n, n ≤ 6 ∧ fX12_manyOf n0 (gI MY 13) (nI sx) MY = some (nI n, MY) := by
        unfold fX12_manyOf
        rw [h13]
        rcases (show sx = 0 ∨ sx = 1 ∨ sx = 2 by omega) with rfl | rfl | rfl
        · exact ⟨T.nt, o1, eq_t rfl (eq_f ob (by rw [cb, t2]))⟩
        · exact ⟨T.nc, by omega, eq_f (by decide) (eq_t rfl (eq_f ob (by rw [cb, c2])))⟩
        · exact ⟨T.nd, o3, eq_f (by decide) (eq_f (by decide) (eq_f ob (by rw [cb, d2])))⟩
      refine eq_b hM ?_
      rcases yis (n0 := n0) (n := n) (x := y) (hi := nI n - 1) (by omega) rfl with ⟨i, hi, rfl, ei⟩ | ⟨zi, ei⟩
      · exact eq_b (ei MY) (eq_f (show ¬ (1 : Int32) = 0 by decide) (eq_b (ek MY) (eq_t rfl rfl)))
      · exact eq_b (ei MY) (eq_t rfl rfl)
    · exact eq_b (es MY) (eq_t rfl rfl)
end
section
/-! WAYS AND WALKS COME TO AN END -/
theorem lpC {σ ρ : Type} {L : Nat → Nat → σ → Option ρ} {F : σ → Option ρ} {n : Nat} {I : σ → Prop} (hs : ∀ w k s, k < n → I s → ∃ s', L (w + 1) k s = L w (k + 1) s' ∧ I s') (he : ∀ w s, I s → ∃ s', L (w + 1) n s = F s' ∧ I s') : ∀ w k s, k ≤ n → n < w + k → I s → ∃ s', L w k s = F s' ∧ I s'
  | 0, k, s, hk, hw, _ => by omega
  | w + 1, k, s, hk, hw, hI => by
    by_cases g : k = n
    · rw [g]; exact he w s hI
    · obtain ⟨s', e, h'⟩ := hs w k s (by omega) hI
      rw [e]
      exact lpC hs he w (k + 1) s' (by omega) (by omega) h'
theorem lpG {σ ρ : Type} {L : Nat → Nat → σ → Option ρ} {n : Nat} {I : σ → Prop} {Q : ρ → Prop} (hs : ∀ w k s, k < n → I s → (okP (L (w + 1) k s) Q ∨ ∃ s', L (w + 1) k s = L w (k + 1) s' ∧ I s')) (he : ∀ w s, I s → okP (L (w + 1) n s) Q) : ∀ w k s, k ≤ n → n < w + k → I s → okP (L w k s) Q
  | 0, k, s, hk, hw, _ => by omega
  | w + 1, k, s, hk, hw, hI => by
    by_cases g : k = n
    · rw [g]; exact he w s hI
    · rcases hs w k s (by omega) hI with h | ⟨s', e, h'⟩
      · exact h
      · rw [e]
        exact lpG hs he w (k + 1) s' (by omega) (by omega) h'
def CalN (n0 : Nat) (f g : Option (Int32 × Mem)) : Prop := ∃ r r' MX' MY', f = some (r, MX') ∧ g = some (r', MY') ∧ R n0 MX' MY'
theorem Cal.n {n0 : Nat} {f g : Option (Int32 × Mem)} (h : Cal n0 f g) : CalN n0 f g := by
  obtain ⟨r, MX', MY', h1, h2, h3⟩ := h
  exact ⟨r, r, MX', MY', h1, h2, h3⟩
theorem CalN.scr {n0 q b : Nat} {T : TP} {nr C m : Nat} {pm : Nat → Int32 × Nat} {s : Nat × List (Nat × Nat)} {MX MY : Mem} {f g : Option (Int32 × Mem)} (h : RR n0 q b T nr C m pm s MX MY) (e1 : okP f (fun z => XF scA MX z.2)) (e2 : okP g (fun z => YF scP MY z.2)) : CalN n0 f g := by
  obtain ⟨⟨r, X⟩, a1, a2⟩ := e1
  obtain ⟨⟨r', Y⟩, b1, b2⟩ := e2
  exact ⟨r, r', X, Y, a1, b1, q, b, T, nr, C, m, pm, s, h.scr a2 b2⟩
def XRd (q nc nr : Nat) (M : Mem) : Prop := gI M (128 * q + 8) = nI nr ∧ nr ≤ 10 ∧ ∀ k, k < nr → ∃ a c v, a < nc ∧ c < nc ∧ 1 ≤ v ∧ v ≤ 30 ∧ gA M (q + 6) k = nI a ∧ gA M (q + 7) k = nI c ∧ gA M (q + 8) k = nI v
theorem XRd.tw {q nc nr : Nat} {M M' : Mem} (h : XRd q nc nr M) (t : xTw q M M') : XRd q nc nr M' := ⟨(t.1 _ (by omega) (by omega)).trans h.1, h.2.1, fun k hk => by
  rw [t.2 _ (by omega) (by omega), t.2 _ (by omega) (by omega), t.2 _ (by omega) (by omega)]
  exact h.2.2 k hk⟩
theorem RT.rd {n0 q b : Nat} {T : TP} {nr C : Nat} {MX MY : Mem} (h : RT n0 q b T nr C MX MY) : XRd q T.nc nr MX := by
  obtain ⟨c1, c2, c3⟩ := h.2.2.2.2.2.1.2.2.2.2.1
  refine ⟨c1, c3.1, fun k hk => ?_⟩
  obtain ⟨a, c, v, a1, a2, _, a4, a5, a6, a7, a8⟩ := c3.2.1 k hk
  exact ⟨a, c, v, a1, a2, a4, a5, a6, a7, a8⟩
theorem scA31 : ∀ a, scA a → a < 31 ∨ 63 ≤ a := fun a z => by unfold scA at z; omega
/-- distances are numbers -/
def D19 (M : Mem) : Prop := ∀ c, c < 5 → ∃ d, d ≤ 1000000 ∧ gA M 19 c = nI d
def WyI (M0 M : Mem) : Prop := XF scA M0 M ∧ D19 M
theorem xshort {n0 a c v : Nat} {M0 M : Mem} (ha : a < 5) (hc : c < 5) (hv : v ≤ 30) (h : WyI M0 M) : ∃ M', fX10_shorten n0 (nI a) (nI c) (nI v) M = some M' ∧ WyI M0 M' := by
  have ca : (nI a).toNatClampNeg = a := nI_clamp (by omega)
  have cc : (nI c).toNatClampNeg = c := nI_clamp (by omega)
  obtain ⟨da, la, ea⟩ := h.2 a ha
  obtain ⟨dc, lc, ec⟩ := h.2 c hc
  refine ⟨sA M 19 c (nI (min dc (da + v))), ?_, h.1.a (by unfold scA; omega), fun j hj => ?_⟩
  · unfold fX10_shorten
    simp only [ca, cc, ea, ec, nI_add]
    rw [imin_nI (by omega) (by omega)]
    exact eq_f (nI_in hc (by decide)) (eq_f (nI_in ha (by decide)) (eq_f (nI_in hc (by decide)) rfl))
  · rw [gA_sA, if_pos rfl]
    by_cases z : j = c
    · rw [if_pos z]; exact ⟨_, by omega, rfl⟩
    · rw [if_neg z]; exact h.2 j hj
theorem xsteps {n0 q nr a c : Nat} {T : TP} {M : Mem} (hn : 1700 ≤ n0) (hT : XT n0 q T M) (hR : XRd q T.nc nr M) (ha : a < T.nc) (hc : c < T.nc) : okP (fX10_stepsOf n0 q (nI a) (nI c) M) (fun z => XF scA M z.2 ∧ (z.1 = -1 ∨ ∃ d, d < 1000000 ∧ z.1 = nI d)) := by
  obtain ⟨o1, o2, o3, _⟩ := hT.2.1
  have hq := hT.1.1
  have r10 := hR.2.1
  have tw : ∀ M', XF scA M M' → xTw q M M' := fun M' f => f.tw hq scA31
  -- one road after the other
  have l49 : ∀ (k37 : Int32 → Int32 → Mem → Option (Int32 × Mem)) (x4 : Int32) (M1 : Mem), WyI M M1 → ∃ M2, loopN (bX10_stepsOf_49 n0 q k37) (fun _ _ _ _ => none) n0 (nI c) x4 (nI 0) M1 = k37 (nI c) (x4 + 1) M2 ∧ WyI M M2 := fun k37 x4 M1 hI => by
    refine lpC (L := fun w k s => loopN (bX10_stepsOf_49 n0 q k37) (fun _ _ _ _ => none) w (nI c) x4 (nI k) s) (F := fun s => k37 (nI c) (x4 + 1) s) (n := nr) (I := WyI M) (fun w k s hk hs => ?_) (fun w s hs => ?_) n0 0 M1 (by omega) (by omega) hI
    · show ∃ s', bX10_stepsOf_49 n0 q k37 (loopN (bX10_stepsOf_49 n0 q k37) (fun _ _ _ _ => none) w) (nI c) x4 (nI k) s = _ ∧ _
      have Rs := hR.tw (tw s hs.1)
      obtain ⟨a', c', v, a1, a2, _, a4, a5, a6, a7⟩ := Rs.2.2 k hk
      have ck : (nI k).toNatClampNeg = k := nI_clamp (by omega)
      have ok : ¬ oob (nI k) 10 := nI_in (by omega) (by decide)
      obtain ⟨s1, e1, i1⟩ := xshort (n0 := n0) (show a' < 5 by omega) (show c' < 5 by omega) a4 hs
      have R1 := hR.tw (tw s1 i1.1)
      have t1 : gA s1 (q + 6) k = nI a' ∧ gA s1 (q + 7) k = nI c' ∧ gA s1 (q + 8) k = nI v := by
        have := (tw s1 i1.1)
        have h0 := tw s hs.1
        rw [this.2 _ (by omega) (by omega), this.2 _ (by omega) (by omega), this.2 _ (by omega) (by omega), ← h0.2 (q + 6) (by omega) (by omega), ← h0.2 (q + 7) (by omega) (by omega), ← h0.2 (q + 8) (by omega) (by omega)]
        exact ⟨a5, a6, a7⟩
      obtain ⟨s2, e2, i2⟩ := xshort (n0 := n0) (show c' < 5 by omega) (show a' < 5 by omega) a4 i1
      refine ⟨s2, ?_, i2⟩
      unfold bX10_stepsOf_49
      refine eq_f (by rw [Rs.1]; exact nI_ge hk (by omega)) (eq_f ok (eq_f ok (eq_f ok (eq_b (z := s1) (by rw [ck, a5, a6, a7]; exact e1) (eq_f ok (eq_f ok (eq_f ok (eq_b (z := s2) (by rw [ck, t1.1, t1.2.1, t1.2.2]; exact e2) ?_))))))))
      rw [show nI k + 1 = nI (k + 1) from nI_add k 1]
    · show ∃ s', bX10_stepsOf_49 n0 q k37 (loopN (bX10_stepsOf_49 n0 q k37) (fun _ _ _ _ => none) w) (nI c) x4 (nI nr) s = _ ∧ _
      have Rs := hR.tw (tw s hs.1)
      refine ⟨s, ?_, hs⟩
      unfold bX10_stepsOf_49
      exact eq_t (by rw [Rs.1]; exact Int32.le_refl _) rfl
  -- round after round
  have l37 : ∀ M1, WyI M M1 → okP (fX10_stepsOf_37 n0 q (nI c) 0 M1) (fun z => XF scA M z.2 ∧ (z.1 = -1 ∨ ∃ d, d < 1000000 ∧ z.1 = nI d)) := fun M1 hI => by
    refine lpG (L := fun w k s => loopN (bX10_stepsOf_37 n0 q) (fun _ _ _ => none) w (nI c) (nI k) s) (n := T.nc) (I := WyI M) (fun w k s hk hs => Or.inr ?_) (fun w s hs => ?_) n0 0 M1 (by omega) (by omega) hI
    · show ∃ s', bX10_stepsOf_37 n0 q (loopN (bX10_stepsOf_37 n0 q) (fun _ _ _ => none) w) (nI c) (nI k) s = _ ∧ _
      obtain ⟨s1, e1, i1⟩ := l49 (loopN (bX10_stepsOf_37 n0 q) (fun _ _ _ => none) w) (nI k) s hs
      refine ⟨s1, ?_, i1⟩
      unfold bX10_stepsOf_37
      have := (hT.tw (tw s hs.1)).2.2.1
      refine eq_f (by rw [this]; exact nI_ge hk (by omega)) (e1.trans ?_)
      rw [show nI k + 1 = nI (k + 1) from nI_add k 1]
      rfl
    · show okP (bX10_stepsOf_37 n0 q (loopN (bX10_stepsOf_37 n0 q) (fun _ _ _ => none) w) (nI c) (nI T.nc) s) _
      have Ts := (hT.tw (tw s hs.1)).2.2.1
      obtain ⟨d, d1, d2⟩ := hs.2 c (by omega)
      have cc : (nI c).toNatClampNeg = c := nI_clamp (by omega)
      unfold bX10_stepsOf_37
      refine okP_t (by rw [Ts]; exact Int32.le_refl _) (okP_be (xCot Ts (by omega) hc) (okP_f (show ¬ (1 : Int32) = 0 by decide) (okP_f (nI_in (by omega) (by decide)) (okP_ite (fun _ => okP_some ⟨hs.1, Or.inl rfl⟩) (fun z => okP_f (nI_in (by omega) (by decide)) (okP_some ⟨hs.1, Or.inr ⟨d, ?_, ?_⟩⟩))))))
      · rw [cc, d2] at z
        rcases Nat.lt_or_ge d 1000000 with y | y
        · exact y
        · exact absurd (nI_le (a := 1000000) y (by omega)) z
      · rw [cc, d2]
  -- the first row
  have l3 : ∀ w k M1, k ≤ 5 → 5 < w + k → XF scA M M1 → (∀ j, j < k → ∃ d, d ≤ 1000000 ∧ gA M1 19 j = nI d) → okP (loopN (bX10_stepsOf_3 n0 q) (fun _ _ _ _ => none) w (nI a) (nI c) (nI k) M1) (fun z => XF scA M z.2 ∧ (z.1 = -1 ∨ ∃ d, d < 1000000 ∧ z.1 = nI d)) := fun w => by
    induction w with
    | zero => intro k M1 hk hw _ _; omega
    | succ w ih =>
      intro k M1 hk hw hf hd
      show okP (bX10_stepsOf_3 n0 q (loopN (bX10_stepsOf_3 n0 q) (fun _ _ _ _ => none) w) (nI a) (nI c) (nI k) M1) _
      unfold bX10_stepsOf_3
      by_cases g : k = 5
      · exact okP_t (by rw [g]; decide) (l37 M1 ⟨hf, fun j hj => hd j (by omega)⟩)
      · have ck : (nI k).toNatClampNeg = k := nI_clamp (by omega)
        have st : ∀ d, d ≤ 1000000 → okP (fX10_stepsOf_27 n0 q (loopN (bX10_stepsOf_3 n0 q) (fun _ _ _ _ => none) w) (nI a) (nI c) (nI k) (nI k) (nI d) M1) (fun z => XF scA M z.2 ∧ (z.1 = -1 ∨ ∃ d, d < 1000000 ∧ z.1 = nI d)) := fun d hd2 => by
          unfold fX10_stepsOf_27
          refine okP_f (nI_in (by omega) (by decide)) (okP_bnd ?_)
          rw [ck, show nI k + 1 = nI (k + 1) from nI_add k 1]
          refine ih (k + 1) _ (by omega) (by omega) (hf.a (by unfold scA; omega)) (fun j hj => ?_)
          rw [gA_sA, if_pos rfl]
          by_cases z : j = k
          · rw [if_pos z]; exact ⟨d, hd2, rfl⟩
          · rw [if_neg z]; exact hd j (by omega)
        refine okP_f (nI_ge (b := 5) (by omega) (by decide)) (okP_ite (fun _ => st 0 (by omega)) (fun _ => st 1000000 (by omega)))
  exact l3 n0 0 M (by omega) (by omega) XF.r (fun j hj => by omega)
theorem y25Ix {b a c : Nat} : (25 : Int32) * nI b + (5 : Int32) * nI a + nI c = nI (25 * b + 5 * a + c) := by
  rw [show (25 : Int32) = nI 25 from rfl, nI_mul, show (5 : Int32) = nI 5 from rfl, nI_mul, nI_add, nI_add]
theorem yway {n0 q b : Nat} {T : TP} {nr C : Nat} {MX MY : Mem} (h : RT n0 q b T nr C MX MY) (x y : Int32) : ∃ r, fX12_way n0 x y MY = some (r, MY) := by
  have h13 := h.2.2.2.2.1.2.2.2.1
  have hb := h.2.2.2.2.1.2.2.1
  have o2 := h.2.2.2.1.2.1.2.1
  unfold fX12_way
  rcases isCo h x with ⟨a, ha, rfl, _, e2⟩ | ⟨_, _, e2⟩
  · rcases isCo h y with ⟨c, hc, rfl, _, e4⟩ | ⟨_, _, e4⟩
    · have ea : fX12_at n0 (gI MY 13) (nI a) (nI c) MY = some (nI (25 * b + 5 * a + c), MY) := by
        unfold fX12_at
        rw [h13, y25Ix]
      have oi : ¬ oob (nI (25 * b + 5 * a + c)) 50 := nI_in (by omega) (by decide)
      by_cases g : (100000000 : Int32) ≤ gA MY 9 (nI (25 * b + 5 * a + c)).toNatClampNeg
      · exact ⟨_, eq_b e2 (eq_f (show ¬ (1 : Int32) = 0 by decide) (eq_b e4 (eq_f (show ¬ (1 : Int32) = 0 by decide) (eq_b ea (eq_f oi (eq_t g rfl))))))⟩
      · exact ⟨_, eq_b e2 (eq_f (show ¬ (1 : Int32) = 0 by decide) (eq_b e4 (eq_f (show ¬ (1 : Int32) = 0 by decide) (eq_b ea (eq_f oi (eq_f g (eq_b ea (eq_f oi rfl))))))))⟩
    · exact ⟨_, eq_b e2 (eq_f (show ¬ (1 : Int32) = 0 by decide) (eq_b e4 (eq_t rfl rfl)))⟩
  · exact ⟨_, eq_b e2 (eq_t rfl rfl)⟩
theorem nWay {n0 : Nat} {x y : Int32} {MX MY : Mem} (hn : 1700 ≤ n0) (h : R n0 MX MY) : CalN n0 (fX11_way n0 x y MX) (fX12_way n0 x y MY) := by
  obtain ⟨q, b, T, nr, C, m, pm, s, h⟩ := h
  have h1 := h.1
  obtain ⟨r, er⟩ := yway h1 x y
  refine CalN.scr h ?_ ⟨_, er, YF.r⟩
  unfold fX11_way
  rcases isCo h1 x with ⟨a, ha, rfl, e1, _⟩ | ⟨_, e1, _⟩
  · rcases isCo h1 y with ⟨c, hc, rfl, e3, _⟩ | ⟨_, e3, _⟩
    · obtain ⟨⟨r, X⟩, a1, a2, _⟩ := xsteps (n0 := n0) hn h1.2.2.2.1 h1.rd ha hc
      exact ⟨_, eq_b e1 (eq_f (show ¬ (1 : Int32) = 0 by decide) (eq_b e3 (eq_f (show ¬ (1 : Int32) = 0 by decide) (eq_b (by rw [h1.2.1]; exact a1) rfl)))), a2⟩
    · exact ⟨_, eq_b e1 (eq_f (show ¬ (1 : Int32) = 0 by decide) (eq_b e3 (eq_t rfl rfl))), XF.r⟩
  · exact ⟨_, eq_b e1 (eq_t rfl rfl), XF.r⟩
theorem nArrive {n0 : Nat} {x y : Int32} {MX MY : Mem} (hn : 1700 ≤ n0) (h : R n0 MX MY) : CalN n0 (fX11_arrive n0 x y MX) (fX12_arrive n0 x y MY) := by
  have h0 := h
  obtain ⟨q, b, T, nr, C, m, pm, s, h⟩ := h
  obtain ⟨h1, h2, h3, h4, _⟩ := id h
  have hm := h2.1
  obtain ⟨o1, o2, o3, _⟩ := h1.2.2.2.1.2.1
  -- the reference: a way, then later
  have yA : okP (fX12_arrive n0 x y MY) (fun z => YF scP MY z.2) := by
    obtain ⟨r, er⟩ := yway h1 x y
    unfold fX12_arrive
    refine okP_be er (okP_ite (fun _ => okP_some YF.r) (fun _ => ?_))
    -- later comes to an end whatever is asked
    have yl : ∀ z, okP (fX12_later n0 y z MY) (fun u => YF scP MY u.2) := fun z => by
      unfold fX12_later
      rcases isCo h1 y with ⟨c, hc, rfl, _, e2⟩ | ⟨_, _, e2⟩
      · rcases yah (n0 := n0) (lo := 0) (hi := 60) z h4.1.1 hm (by decide) (by decide) with ⟨k, _, k2, k3, rfl, e⟩ | ⟨_, e⟩
        · obtain ⟨Y1, b1, b2, b3⟩ := ycopyD (n0 := n0) (v := 1) (u := 0) hn (by decide) (by decide) (by decide) o2 (by have := h2.2.2.l; omega) h4
          obtain ⟨Y2, c1, c2⟩ := ylat (n0 := n0) (b := b) (m := m) hn hc h2.2.1 k3 n0 0 Y1 s (by omega) (by omega) (h1.2.2.2.2.1.yf b3 lP28) b2 h2.2.2
          exact ⟨_, eq_b e2 (eq_f (show ¬ (1 : Int32) = 0 by decide) (eq_b e (eq_f (show ¬ (1 : Int32) = 0 by decide) (eq_b b1 c1)))), lsc (b3.tr c2)⟩
        · exact ⟨_, eq_b e2 (eq_f (show ¬ (1 : Int32) = 0 by decide) (eq_b e (eq_t rfl rfl))), YF.r⟩
      · exact ⟨_, eq_b e2 (eq_t rfl rfl), YF.r⟩
    obtain ⟨⟨r', Y⟩, a1, a2⟩ := yl r
    exact ⟨_, eq_b a1 rfl, a2⟩
  refine CalN.scr h ?_ yA
  unfold fX11_arrive
  rcases isCo h1 x with ⟨a, ha, rfl, e1, _⟩ | ⟨_, e1, _⟩
  · rcases isCo h1 y with ⟨c, hc, rfl, e3, _⟩ | ⟨_, e3, _⟩
    · obtain ⟨⟨r, X⟩, a1, a2, a3⟩ := xsteps (n0 := n0) hn h1.2.2.2.1 h1.rd ha hc
      refine okP_be e1 (okP_f (show ¬ (1 : Int32) = 0 by decide) (okP_be e3 (okP_f (show ¬ (1 : Int32) = 0 by decide) (okP_be (z := (r, X)) (by rw [h1.2.1]; exact a1) ?_))))
      rcases a3 with a3 | ⟨d, d1, a3⟩
      · exact okP_t a3 (okP_some a2)
      · have er : r = nI d := a3
        subst er
        refine okP_f (nI_m1 (by omega)) (okP_ite (fun _ => okP_some a2) (fun g => ?_))
        have d60 : d ≤ 60 := by
          rcases Nat.lt_or_ge 60 d with y | y
          · exact absurd (nI_lt (a := 60) y (by omega)) g
          · exact y
        have TX := h1.2.2.2.1.xf a2 scA31
        have SX' := h3.fr a2 (fun a z y => by unfold scA at z; unfold stA at y; omega)
        have eb : fX11_isBeyond n0 (nI d) X = some (bI (9999 - m < d), X) := by
          unfold fX11_isBeyond
          rw [SX'.2.2.1, show (9999 : Int32) - nI m = nI (9999 - m) from nI_subN hm]
          by_cases z : d ≤ 9999 - m
          · rw [bI_f (by omega)]; exact eq_t (nI_le z (by omega)) rfl
          · rw [bI_t (by omega)]; exact eq_f (nI_ge (by omega) (by omega)) rfl
        refine okP_be eb ?_
        by_cases z : 9999 - m < d
        · exact okP_f (show ¬ bI (9999 - m < d) = 0 by rw [bI_t z]; decide) (okP_some a2)
        · obtain ⟨X1, b1, b2, b3⟩ := xfc (n0 := n0) (q1 := 26) (most := d) hn TX SX' h2.2.1 hc hm d60 (Or.inl rfl)
          exact okP_t (show bI (9999 - m < d) = 0 from bI_f z) (okP_be b1 (okP_f (nI_in (by omega) (by decide)) (okP_some (a2.tr (b3.wk (fun a y => by unfold scA; omega))))))
    · exact ⟨_, eq_b e1 (eq_f (show ¬ (1 : Int32) = 0 by decide) (eq_b e3 (eq_t rfl rfl))), XF.r⟩
  · exact ⟨_, eq_b e1 (eq_t rfl rfl), XF.r⟩
end
section
/-! EARLY COMES TO AN END -/
theorem xout {n0 q nr c : Nat} {T : TP} {M : Mem} (hn : 1700 ≤ n0) (hT : XT n0 q T M) (hR : XRd q T.nc nr M) (hc : c < T.nc) : okP (fX10_goOutFrom n0 q (nI c) M) (fun M' => XF scA M M') := by
  have hq := hT.1.1
  have r10 := hR.2.1
  have tw : ∀ M', XF scA M M' → xTw q M M' := fun M' f => f.tw hq scA31
  have l27 : ∀ (k11 : Int32 → Mem → Option Mem) (k : Nat) (M1 : Mem), k ≤ 60 → XF scA M M1 → ∃ M2, loopN (bX10_goOutFrom_27 n0 q k11) (fun _ _ _ => none) n0 (nI k) (nI 0) M1 = k11 (nI (k + 1)) M2 ∧ XF scA M M2 := fun k11 k M1 hk hI => by
    refine lpC (L := fun w r s => loopN (bX10_goOutFrom_27 n0 q k11) (fun _ _ _ => none) w (nI k) (nI r) s) (F := fun s => k11 (nI (k + 1)) s) (n := nr) (I := XF scA M) (fun w r s hr hs => ?_) (fun w s hs => ?_) n0 0 M1 (by omega) (by omega) hI
    · show ∃ s', bX10_goOutFrom_27 n0 q k11 (loopN (bX10_goOutFrom_27 n0 q k11) (fun _ _ _ => none) w) (nI k) (nI r) s = _ ∧ _
      have Rs := hR.tw (tw s hs)
      obtain ⟨a', c', v, a1, a2, a3, a4, a5, a6, a7⟩ := Rs.2.2 r hr
      have cr : (nI r).toNatClampNeg = r := nI_clamp (by omega)
      have or : ¬ oob (nI r) 10 := nI_in (by omega) (by decide)
      have r1 : nI r + 1 = nI (r + 1) := nI_add r 1
      have st : ¬ gI s (128 * q + 8) ≤ nI r := by rw [Rs.1]; exact nI_ge hr (by omega)
      by_cases g : v ≤ k
      · have ac : fX10_across n0 q (nI r) (gA s 20 (nI (k - v)).toNatClampNeg) s = some ((((gA s 20 (nI (k - v)).toNatClampNeg >>> (nI a' &&& 31)) &&& (1 : Int32)) <<< (nI c' &&& 31)) ||| (((gA s 20 (nI (k - v)).toNatClampNeg >>> (nI c' &&& 31)) &&& (1 : Int32)) <<< (nI a' &&& 31)), s) := by
          unfold fX10_across
          exact eq_f or (eq_e (v' := nI a') (by rw [cr, a5]) (eq_f or (eq_e (v' := nI c') (by rw [cr, a6]) rfl)))
        refine ⟨?wt1, ?_, ?_⟩
        rotate_left
        · unfold bX10_goOutFrom_27 fX10_goOutFrom_74
          refine eq_f st (eq_f or (eq_e (v' := nI (k - v)) (by rw [cr, a7, nI_subN g]) (eq_f (nI_nn (by omega)) (eq_f (nI_in (by omega) (by decide)) (eq_f (nI_in (by omega) (by decide)) (eq_b ac (eq_f (nI_in (by omega) (by decide)) ?_)))))))
          rw [r1]
        · exact hs.a (by unfold scA; omega)
      · refine ⟨s, ?_, hs⟩
        unfold bX10_goOutFrom_27 fX10_goOutFrom_74
        refine eq_f st (eq_f or (eq_n (eq_t ?_ ?_)))
        · rw [cr, a7, i_lt, nz, nz, zI_sub, zI_toInt (by omega) (by omega), show (0 : Int32).toInt = 0 from rfl]
          omega
        · rw [r1]
    · refine ⟨s, ?_, hs⟩
      show bX10_goOutFrom_27 n0 q k11 (loopN (bX10_goOutFrom_27 n0 q k11) (fun _ _ _ => none) w) (nI k) (nI nr) s = _
      have Rs := hR.tw (tw s hs)
      unfold bX10_goOutFrom_27
      refine eq_t (by rw [Rs.1]; exact Int32.le_refl _) ?_
      rw [show nI k + 1 = nI (k + 1) from nI_add k 1]
  have l11 : ∀ M1, XF scA M M1 → okP (loopN (bX10_goOutFrom_11 n0 q) (fun _ _ => none) n0 (nI 1) M1) (fun M' => XF scA M M') := fun M1 hI => by
    refine lpG (L := fun w k s => loopN (bX10_goOutFrom_11 n0 q) (fun _ _ => none) w (nI k) s) (n := 61) (I := XF scA M) (fun w k s hk hs => Or.inr ?_) (fun w s hs => ?_) n0 1 M1 (by omega) (by omega) hI
    · show ∃ s', bX10_goOutFrom_11 n0 q (loopN (bX10_goOutFrom_11 n0 q) (fun _ _ => none) w) (nI k) s = _ ∧ _
      obtain ⟨s2, e2, i2⟩ := l27 (loopN (bX10_goOutFrom_11 n0 q) (fun _ _ => none) w) k (sA s 20 (nI k).toNatClampNeg 0) (by omega) (hs.a (by unfold scA; omega))
      refine ⟨s2, ?_, i2⟩
      unfold bX10_goOutFrom_11
      exact eq_f (fun z => by have := (nI_ltI (a := 60) (by decide) (by omega)).mp z; omega) (eq_f (nI_in (by omega) (by decide)) (eq_n e2))
    · show okP (bX10_goOutFrom_11 n0 q (loopN (bX10_goOutFrom_11 n0 q) (fun _ _ => none) w) (nI 61) s) _
      unfold bX10_goOutFrom_11
      exact okP_t (by decide) (okP_some hs)
  unfold fX10_goOutFrom
  exact okP_f (by decide) (okP_bnd (l11 _ (XF.r.a (by unfold scA; omega))))
theorem xearly {n0 q nr c m : Nat} {T : TP} {pm : Nat → Int32 × Nat} {s : Nat × List (Nat × Nat)} {M : Mem} (hn : 1700 ≤ n0) (hT : XT n0 q T M) (hS : SX q T.nc T.nd m pm s M) (hO : PsO T.nt T.nc pm) (hR : XRd q T.nc nr M) (hq1 : gR M 1 = q) (hc : c < T.nc) (hm : m ≤ 9999) : okP ((fX11_foresee n0 26 (nI c) (60 : Int32) M).bind fun z21 => (fX10_goOutFrom n0 (gR z21.2 1) (nI c) z21.2).bind fun z34 => fX11_early_39 n0 (nI c) z21.1 (1 : Int32) z34) (fun z => XF scA M z.2) := by
  obtain ⟨X1, a1, a2, a3⟩ := xfc (n0 := n0) (q1 := 26) (most := 60) hn hT hS hO hc hm (by decide) (Or.inl rfl)
  have f1 : XF scA M X1 := a3.wk (fun a y => by unfold scA; omega)
  have T1 := hT.xf f1 scA31
  obtain ⟨X2, b1, b2⟩ := xout (n0 := n0) hn T1 (hR.tw (f1.tw hT.1.1 scA31)) hc
  refine okP_be a1 (okP_be (z := X2) (by rw [show gR X1 1 = q by rw [f1.1]; exact hq1]; exact b1) ?_)
  have f2 := f1.tr b2
  show okP (loopN (bX11_early_39 n0) (fun _ _ _ _ => none) n0 (nI c) (nI (min 60 (9999 - m))) (nI 1) X2) (fun z => XF scA M z.2)
  refine lpG (L := fun w k s => loopN (bX11_early_39 n0) (fun _ _ _ _ => none) w (nI c) (nI (min 60 (9999 - m))) (nI k) s) (n := min 60 (9999 - m) + 1) (I := XF scA M) (fun w k s hk hs => ?_) (fun w s hs => ?_) n0 1 X2 (by omega) (by omega) f2
  · show okP (bX11_early_39 n0 (loopN (bX11_early_39 n0) (fun _ _ _ _ => none) w) (nI c) (nI (min 60 (9999 - m))) (nI k) s) _ ∨ ∃ s', bX11_early_39 n0 (loopN (bX11_early_39 n0) (fun _ _ _ _ => none) w) (nI c) (nI (min 60 (9999 - m))) (nI k) s = _ ∧ _
    have k1 : nI k + 1 = nI (k + 1) := nI_add k 1
    have st : ¬ nI (min 60 (9999 - m)) < nI k := fun z => by have := (nI_ltI (by omega) (by omega)).mp z; omega
    obtain ⟨r, er⟩ : ∃ r, fX10_canBeAt n0 (nI c) (nI k) s = some (r, s) := by
      unfold fX10_canBeAt
      by_cases z : ((gA s 20 (nI k).toNatClampNeg >>> (nI c &&& 31)) &&& (1 : Int32)) = 1
      · exact ⟨1, eq_f (nI_nn (by omega)) (eq_f (fun z => by have := (nI_ltI (a := 60) (by decide) (by omega)).mp z; omega) (eq_f (nI_in (by omega) (by decide)) (eq_t z rfl)))⟩
      · exact ⟨0, eq_f (nI_nn (by omega)) (eq_f (fun z => by have := (nI_ltI (a := 60) (by decide) (by omega)).mp z; omega) (eq_f (nI_in (by omega) (by decide)) (eq_f z rfl)))⟩
    unfold bX11_early_39 fX11_early_73
    rw [k1]
    by_cases z : r = 0
    · exact Or.inr ⟨s, eq_f st (eq_b er (eq_t z rfl)), hs⟩
    · by_cases y : gA s 26 (Int32.toNatClampNeg 0) ≤ gA s 26 (nI k).toNatClampNeg
      · exact Or.inr ⟨s, eq_f st (eq_b er (eq_f z (eq_f (nI_in (by omega) (by decide)) (eq_f (by decide) (eq_t y rfl))))), hs⟩
      · exact Or.inl ⟨_, eq_f st (eq_b er (eq_f z (eq_f (nI_in (by omega) (by decide)) (eq_f (by decide) (eq_f y rfl))))), hs⟩
  · show okP (bX11_early_39 n0 (loopN (bX11_early_39 n0) (fun _ _ _ _ => none) w) (nI c) (nI (min 60 (9999 - m))) (nI (min 60 (9999 - m) + 1)) s) _
    unfold bX11_early_39
    exact okP_t (nI_lt (by omega) (by omega)) (okP_some hs)
def YSt (b : Nat) (M : Mem) : Prop := ∀ a c, a < 5 → c < 5 → ∃ v, v ≤ 30 ∧ gA M 8 (25 * b + 5 * a + c) = nI v
theorem RT.st {n0 q b : Nat} {T : TP} {nr C : Nat} {MX MY : Mem} (h : RT n0 q b T nr C MX MY) : YSt b MY := fun a c ha hc => by
  obtain ⟨c1, c2, c3⟩ := h.2.2.2.2.2.1.2.2.2.2.1
  rw [Nat.add_assoc]
  rcases c3.2.2 a c ha hc with ⟨z, _⟩ | ⟨k, hk, _, z⟩
  · exact ⟨0, by omega, z⟩
  · obtain ⟨_, _, v, _, _, _, _, v2, _, _, v3⟩ := c3.2.1 k hk
    exact ⟨v, v2, (show gA MY 8 (25 * b + (5 * a + c)) = _ from z).trans v3⟩
def eP (a i : Nat) : Prop := lP 1 a i ∨ a = 38
theorem eP28 : ∀ a i, eP a i → 28 ≤ a := fun a i z => by unfold eP lP tP dP at z; omega
theorem ePn : ¬ eP 28 0 := fun z => by unfold eP lP tP dP at z; omega
theorem ePsc {M M' : Mem} (f : YF eP M M') : YF scP M M' := f.wk (fun a i z => z.elim (fun y => Or.inl y) (fun y => Or.inr (Or.inl (by omega))))
theorem le1 {M M' : Mem} (f : YF (lP 1) M M') : YF eP M M' := f.wk (fun _ _ z => Or.inl z)
theorem yearly {n0 b c m : Nat} {T : TP} {pm : Nat → Int32 × Nat} {s : Nat × List (Nat × Nat)} {M : Mem} (hn : 1700 ≤ n0) (hY : YT n0 b T M) (hL : LyD 0 T.nc m pm s M) (hO : PsO T.nt T.nc pm) (hs : sOk T.nd s) (hSt : YSt b M) (hc : c < T.nc) (hm : m ≤ 9999) : okP (fX12_early_21 n0 (nI c) (1 : Int32) M) (fun z => YF eP M z.2) := by
  obtain ⟨o1, o2, o3, _⟩ := hY.2.1
  have hb := hY.2.2.1
  have hl := hs.l
  have h13 : ∀ M', YF eP M M' → gI M' 13 = nI b := fun M' f => by rw [f.2.2.1]; exact hY.2.2.2.1
  have St : ∀ M', YF eP M M' → YSt b M' := fun M' f a c' ha hc' => by
    rw [f.gA (a := 8) (fun i z => by unfold eP lP tP dP at z; omega) (by decide)]
    exact hSt a c' ha hc'
  -- from one corner
  have l44 : ∀ (k21 : Int32 → Int32 → Mem → Option (Int32 × Mem)) (k36 : Int32 → Int32 → Int32 → Mem → Option (Int32 × Mem)) (n a : Nat) (M1 : Mem), 1 ≤ n → n ≤ 60 → a < 5 → YF eP M M1 → ∃ M2, loopN (bX12_early_44 n0 k21 k36) (fun _ _ _ _ _ => none) n0 (nI c) (nI n) (nI a) (nI 0) M1 = k36 (nI c) (nI n) (nI (a + 1)) M2 ∧ YF eP M M2 := fun k21 k36 n a M1 hn1 hn2 ha hI => by
    refine lpC (L := fun w k s => loopN (bX12_early_44 n0 k21 k36) (fun _ _ _ _ _ => none) w (nI c) (nI n) (nI a) (nI k) s) (F := fun s => k36 (nI c) (nI n) (nI (a + 1)) s) (n := 5) (I := YF eP M) (fun w k s hk hs => ?_) (fun w s hs => ?_) n0 0 M1 (by omega) (by omega) hI
    · show ∃ s', bX12_early_44 n0 k21 k36 (loopN (bX12_early_44 n0 k21 k36) (fun _ _ _ _ _ => none) w) (nI c) (nI n) (nI a) (nI k) s = _ ∧ _
      obtain ⟨v, v1, v2⟩ := St s hs a k ha hk
      have ea : fX12_at n0 (gI s 13) (nI a) (nI k) s = some (nI (25 * b + 5 * a + k), s) := by
        unfold fX12_at
        rw [h13 s hs, y25Ix]
      have oi : ¬ oob (nI (25 * b + 5 * a + k)) 50 := nI_in (by omega) (by decide)
      have on : ¬ oob (nI n) 61 := nI_in (by omega) (by decide)
      have cn : (nI n).toNatClampNeg = n := nI_clamp (by omega)
      have k1 : nI k + 1 = nI (k + 1) := nI_add k 1
      have ev : gA s 8 (nI (25 * b + 5 * a + k)).toNatClampNeg = nI v := by rw [nI_clamp (by omega)]; exact v2
      have st : ¬ (5 : Int32) ≤ nI k := nI_ge (b := 5) hk (by decide)
      have go : ∀ u2 u3, fX12_early_110 n0 k21 k36 (loopN (bX12_early_44 n0 k21 k36) (fun _ _ _ _ _ => none) w) (nI c) (nI n) (nI a) (nI k) (nI n) u2 u3 s = loopN (bX12_early_44 n0 k21 k36) (fun _ _ _ _ _ => none) w (nI c) (nI n) (nI a) (nI (k + 1)) (sA s 38 n (u2 ||| u3)) := fun u2 u3 => by
        unfold fX12_early_110
        refine eq_f on (eq_n ?_)
        rw [cn, k1]
      have fs : ∀ u, YF eP M (sA s 38 n u) := fun u => hs.a (Or.inr rfl)
      unfold bX12_early_44
      by_cases g1 : v = 0
      · refine ⟨?wt2, eq_f st (eq_b ea (eq_f oi (eq_e ev (eq_f on (eq_t (by rw [g1]; decide) ?_))))), ?_⟩
        rotate_left
        · unfold fX12_early_109
          exact go _ _
        · exact fs _
      · have g1' : ¬ nI v ≤ 0 := nI_ge (a := 0) (by omega) (by omega)
        by_cases g2 : n < v
        · refine ⟨?wt3, eq_f st (eq_b ea (eq_f oi (eq_e ev (eq_f on (eq_f g1' (eq_t (nI_lt g2 (by omega)) ?_)))))), ?_⟩
          rotate_left
          · unfold fX12_early_109
            exact go _ _
          · exact fs _
        · have g2' : ¬ nI n < nI v := fun z => g2 ((nI_ltI (by omega) (by omega)).mp z)
          have od : ¬ oob (nI n - nI v) 61 := by rw [nI_subN (by omega)]; exact nI_in (by omega) (by decide)
          obtain ⟨r, er⟩ : ∃ r, fX12_has2 n0 (gA s 38 (nI n - nI v).toNatClampNeg) (nI a) s = some (r, s) := by
            unfold fX12_has2
            by_cases z : ((gA s 38 (nI n - nI v).toNatClampNeg >>> (nI a &&& 31)) &&& (1 : Int32)) = 1
            · exact ⟨1, eq_t z rfl⟩
            · exact ⟨0, eq_f z rfl⟩
          by_cases g3 : r = 0
          · refine ⟨?wt4, eq_f st (eq_b ea (eq_f oi (eq_e ev (eq_f on (eq_f g1' (eq_f g2' (eq_f od (eq_b er (eq_t g3 ?_))))))))), ?_⟩
            rotate_left
            · unfold fX12_early_109
              exact go _ _
            · exact fs _
          · refine ⟨?wt5, eq_f st (eq_b ea (eq_f oi (eq_e ev (eq_f on (eq_f g1' (eq_f g2' (eq_f od (eq_b er (eq_f g3 ?_))))))))), ?_⟩
            rotate_left
            · exact go _ _
            · exact fs _
    · refine ⟨s, ?_, hs⟩
      show bX12_early_44 n0 k21 k36 (loopN (bX12_early_44 n0 k21 k36) (fun _ _ _ _ _ => none) w) (nI c) (nI n) (nI a) (nI 5) s = _
      unfold bX12_early_44
      refine eq_t (by decide) ?_
      rw [show nI a + 1 = nI (a + 1) from nI_add a 1]
  -- one minute
  have l36 : ∀ (k21 : Int32 → Int32 → Mem → Option (Int32 × Mem)) (n : Nat) (M1 : Mem), 1 ≤ n → n ≤ 60 → YF eP M M1 → ∃ M2, loopN (bX12_early_36 n0 k21) (fun _ _ _ _ => none) n0 (nI c) (nI n) (nI 0) M1 = k21 (nI c) (nI (n + 1)) M2 ∧ YF eP M M2 := fun k21 n M1 hn1 hn2 hI => by
    refine lpC (L := fun w k s => loopN (bX12_early_36 n0 k21) (fun _ _ _ _ => none) w (nI c) (nI n) (nI k) s) (F := fun s => k21 (nI c) (nI (n + 1)) s) (n := 5) (I := YF eP M) (fun w k s hk hs => ?_) (fun w s hs => ?_) n0 0 M1 (by omega) (by omega) hI
    · show ∃ s', bX12_early_36 n0 k21 (loopN (bX12_early_36 n0 k21) (fun _ _ _ _ => none) w) (nI c) (nI n) (nI k) s = _ ∧ _
      obtain ⟨s2, e2, i2⟩ := l44 k21 (loopN (bX12_early_36 n0 k21) (fun _ _ _ _ => none) w) n k s hn1 hn2 hk hs
      refine ⟨s2, ?_, i2⟩
      unfold bX12_early_36
      exact eq_f (nI_ge (b := 5) hk (by decide)) e2
    · refine ⟨s, ?_, hs⟩
      show bX12_early_36 n0 k21 (loopN (bX12_early_36 n0 k21) (fun _ _ _ _ => none) w) (nI c) (nI n) (nI 5) s = _
      unfold bX12_early_36
      refine eq_t (by decide) ?_
      rw [show nI n + 1 = nI (n + 1) from nI_add n 1]
  -- minutes ahead
  have l145 : ∀ (x2 : Int32) w k M1, k ≤ min 60 (9999 - m) + 1 → 1 ≤ k → min 60 (9999 - m) + 1 < w + k → YF eP M M1 → LyD 1 T.nc (m + (k - 1)) (trP T m pm (k - 1)) s M1 → okP (loopN (bX12_early_145 n0) (fun _ _ _ _ => none) w (nI c) x2 (nI k) M1) (fun z => YF eP M z.2) := fun x2 w => by
    induction w with
    | zero => intro k M1 hk _ hw _ _; omega
    | succ w ih =>
      intro k M1 hk hk1 hw hI hL1
      show okP (bX12_early_145 n0 (loopN (bX12_early_145 n0) (fun _ _ _ _ => none) w) (nI c) x2 (nI k) M1) _
      have m28 : gA M1 28 0 = nI m := m28f hL.1.1 hI ePn
      have Y1 := hY.yf hI eP28
      unfold bX12_early_145 fX12_early_186
      rw [show nI k + 1 = nI (k + 1) from nI_add k 1]
      by_cases g : k = min 60 (9999 - m) + 1
      · exact okP_be (yahF (lo := 1) (hi := 60) m28 hm (by decide) (by decide) (by omega) (by omega)) (okP_t rfl (okP_some hI))
      · obtain ⟨j, rfl⟩ : ∃ j, k = j + 1 := ⟨k - 1, by omega⟩
        rw [Nat.add_sub_cancel] at hL1
        obtain ⟨M2, g1, g2, g3⟩ := ytickD (v := 1) hn Y1 (by decide) hL1 (trP_ok hO j) hs (by omega)
        have f2 := hI.tr (le1 g3)
        obtain ⟨r, er⟩ : ∃ r, fX12_has2 n0 (gA M2 38 (nI (j + 1)).toNatClampNeg) (nI c) M2 = some (r, M2) := by
          unfold fX12_has2
          by_cases z : ((gA M2 38 (nI (j + 1)).toNatClampNeg >>> (nI c &&& 31)) &&& (1 : Int32)) = 1
          · exact ⟨1, eq_t z rfl⟩
          · exact ⟨0, eq_f z rfl⟩
        refine okP_be (yahT (lo := 1) (hi := 60) m28 (by omega) (by omega) (by decide) (by omega)) (okP_f (show ¬ (1 : Int32) = 0 by decide) (okP_be g1 (okP_f (nI_in (by omega) (by decide)) (okP_be er (okP_ite (fun _ => ?_) (fun _ => ?_))))))
        · exact ih (j + 1 + 1) M2 (by omega) (by omega) (by omega) f2 g2
        · obtain ⟨_, M3, e1, e2⟩ := yhr (hY.yf f2 eP28) (v := 1) (by decide) g2.1 (trP_ok hO (j + 1)) (by omega) hc
          have f3 := f2.tr (e2.y : YF eP M2 M3)
          refine okP_be e1 (okP_ite (fun _ => ?_) (fun _ => okP_some f3))
          exact ih (j + 1 + 1) M3 (by omega) (by omega) (by omega) f3 (LyD.fr (P := fun _ _ => False) g2 e2.y o2 (by omega) (fun _ _ z => z.elim))
  refine lpG (L := fun w k s => loopN (bX12_early_21 n0) (fun _ _ _ => none) w (nI c) (nI (k + 1)) s) (n := 60) (I := YF eP M) (fun w k s' hk hs' => ?_) (fun w s' hs' => ?_) n0 0 M (by omega) (by omega) YF.r
  · show okP (bX12_early_21 n0 (loopN (bX12_early_21 n0) (fun _ _ _ => none) w) (nI c) (nI (k + 1)) s') _ ∨ ∃ s'', bX12_early_21 n0 (loopN (bX12_early_21 n0) (fun _ _ _ => none) w) (nI c) (nI (k + 1)) s' = _ ∧ _
    obtain ⟨s2, e2, i2⟩ := l36 (loopN (bX12_early_21 n0) (fun _ _ _ => none) w) (k + 1) (sA s' 38 (nI (k + 1)).toNatClampNeg 0) (by omega) (by omega) (hs'.a (Or.inr rfl))
    refine Or.inr ⟨s2, ?_, i2⟩
    unfold bX12_early_21
    exact eq_f (fun z => by have := (nI_ltI (a := 60) (by decide) (by omega)).mp z; omega) (eq_f (nI_in (by omega) (by decide)) (eq_n e2))
  · show okP (bX12_early_21 n0 (loopN (bX12_early_21 n0) (fun _ _ _ => none) w) (nI c) (nI (60 + 1)) s') _
    have Y1 := hY.yf hs' eP28
    have L1 : LyD 0 T.nc m pm s s' := hL.fr hs' o2 (by omega) (fun a i z y => by unfold eP lP tP dP at z; unfold lP tP dP at y; omega)
    obtain ⟨_, M2, e1, e2⟩ := yhr Y1 (v := 0) (by decide) L1.1 hO (by omega) hc
    have L2 : LyD 0 T.nc m pm s M2 := LyD.fr (P := fun _ _ => False) L1 e2.y o2 (by omega) (fun _ _ z => z.elim)
    obtain ⟨M3, b1, b2, b3⟩ := ycopyD (n0 := n0) (v := 1) (u := 0) hn (by decide) (by decide) (by decide) o2 (by omega) L2
    unfold bX12_early_21
    exact okP_t (by decide) (okP_be e1 (okP_be b1 (l145 _ n0 1 M3 (by omega) (by omega) (by omega) (hs'.tr ((e2.y : YF eP s' M2).tr (le1 b3))) b2)))
theorem nEarly {n0 : Nat} {x : Int32} {MX MY : Mem} (hn : 1700 ≤ n0) (h : R n0 MX MY) : CalN n0 (fX11_early n0 x MX) (fX12_early n0 x MY) := by
  obtain ⟨q, b, T, nr, C, m, pm, s, h⟩ := h
  obtain ⟨h1, h2, h3, h4, _⟩ := id h
  obtain ⟨o1, o2, o3, _⟩ := h1.2.2.2.1.2.1
  have hl := h2.2.2.l
  unfold fX11_early fX12_early
  rcases isCo h1 x with ⟨c, hc, rfl, e1, e2⟩ | ⟨_, e1, e2⟩
  · have f1 : YF eP MY (sA MY 38 (Int32.toNatClampNeg 0) ((1 : Int32) <<< (nI c &&& 31))) := YF.r.a (Or.inr rfl)
    obtain ⟨⟨r, Y⟩, a1, a2⟩ := yearly (n0 := n0) hn (h1.2.2.2.2.1.yf f1 eP28) (h4.fr f1 o2 (by omega) (fun a i z y => by unfold eP lP tP dP at z; unfold lP tP dP at y; omega)) h2.2.1 h2.2.2 (show YSt b (sA MY 38 (Int32.toNatClampNeg 0) ((1 : Int32) <<< (nI c &&& 31))) from fun a c' ha hc' => by rw [gA_sA_ne (by decide)]; exact h1.st a c' ha hc') hc h2.1
    refine CalN.scr h (okP_be e1 (okP_f (show ¬ (1 : Int32) = 0 by decide) (xearly hn h1.2.2.2.1 h3 h2.2.1 h1.rd h1.2.1 hc h2.1))) ⟨_, eq_b e2 (eq_f (show ¬ (1 : Int32) = 0 by decide) (eq_f (by decide) (eq_n a1))), ePsc (f1.tr a2)⟩
  · exact CalN.scr h ⟨_, eq_b e1 (eq_t rfl rfl), XF.r⟩ ⟨_, eq_b e2 (eq_t rfl rfl), YF.r⟩
end
