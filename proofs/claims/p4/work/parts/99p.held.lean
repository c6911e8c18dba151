/-! WHAT WAS HELD: the class -/
theorem b7_has : ∀ D, D < 128 → ∀ d, d < 7 → ((((nI D) >>> ((nI d) &&& 31)) &&& (1 : Int32) = 1) ↔ D / 2 ^ d % 2 = 1) := by decide +kernel
theorem b7_or : ∀ d, d < 7 → ∀ D, D < 128 → D < 2 ^ d → (nI D) ||| ((1 : Int32) <<< ((nI d) &&& 31)) = nI (D + 2 ^ d) := by decide +kernel
theorem b7_2 : ∀ d, d < 7 → ∀ D, D < 128 → D < 2 ^ d → ∀ v, v < 2 → D + v * 2 ^ d < 2 ^ (d + 1) := by decide +kernel
theorem b7_3 : ∀ d, d < 7 → ∀ D, D < 128 → D < 2 ^ d → ∀ v, v < 2 → (D + v * 2 ^ d) / 2 ^ d % 2 = v := by decide +kernel
theorem b7_4 : ∀ d, d < 7 → ∀ D, D < 128 → ∀ v, v < 2 → ∀ e, e < d → (D + v * 2 ^ d) / 2 ^ e % 2 = D / 2 ^ e % 2 := by decide +kernel
theorem p128 {n : Nat} (h : n ≤ 7) : 2 ^ n ≤ 128 := Nat.pow_le_pow_right (n := 2) (by decide) h
theorem Dn7 {f : Nat → Nat} (hf : ∀ d, f d ≤ 1) : ∀ d, d ≤ 7 → Dn f d < 2 ^ d ∧ ∀ e, e < d → Dn f d / 2 ^ e % 2 = f e
  | 0, _ => ⟨Nat.zero_lt_one, fun e he => by omega⟩
  | d + 1, hd => by
    obtain ⟨a1, a2⟩ := Dn7 hf d (by omega)
    have p := p128 (n := d) (by omega)
    have h1 := hf d
    refine ⟨b7_2 d (by omega) (Dn f d) (by omega) a1 (f d) (by omega), fun e he => ?_⟩
    by_cases z : e = d
    · rw [z]; exact b7_3 d (by omega) (Dn f d) (by omega) a1 (f d) (by omega)
    · exact (b7_4 d (by omega) (Dn f d) (by omega) (f d) (by omega) e (by omega)).trans (a2 e (by omega))
theorem Dn_congr {f g : Nat → Nat} : ∀ d, (∀ e, e < d → f e = g e) → Dn f d = Dn g d
  | 0, _ => rfl
  | d + 1, h => by
    show Dn f d + f d * 2 ^ d = Dn g d + g d * 2 ^ d
    rw [Dn_congr d (fun e he => h e (by omega)), h d (by omega)]
theorem Dn_zero {f : Nat → Nat} : ∀ d, (∀ e, e < d → f e = 0) → Dn f d = 0
  | 0, _ => rfl
  | d + 1, h => by
    show Dn f d + f d * 2 ^ d = 0
    rw [Dn_zero d (fun e he => h e (by omega)), h d (by omega), Nat.zero_mul]
/-- the thing of a choice: none, then things by numbers -/
def thI (u : Nat) : Int32 := if u = 0 then -1 else nI (u - 1)
theorem thI_1 (u : Nat) : thI u + 1 = nI u := by
  unfold thI
  by_cases g : u = 0
  · rw [if_pos g, g]; decide
  · rw [if_neg g, show nI (u - 1) + 1 = nI (u - 1 + 1) from nI_add _ 1, show u - 1 + 1 = u by omega]
theorem thI_s (u : Nat) : nI u = thI (u + 1) := by
  unfold thI
  rw [if_neg (by omega), Nat.add_sub_cancel]
theorem thI_ok {nt u : Nat} (h : u ≤ nt) : tOk nt (thI u) := by
  unfold thI
  by_cases g : u = 0
  · rw [if_pos g]; exact Or.inl rfl
  · rw [if_neg g]; exact Or.inr ⟨u - 1, by omega, rfl⟩
theorem thI_lt {nt u : Nat} (h : u ≤ nt) (hn : nt ≤ 6) : ¬ nI nt ≤ thI u := by
  unfold thI
  by_cases g : u = 0
  · rw [if_pos g, i_le, nI_toInt (by omega), show (-1 : Int32).toInt = -1 from rfl]
    omega
  · rw [if_neg g]
    exact nI_ge (by omega) (by omega)
def b01 (p : Bool) : Nat := if p = true then 1 else 0
theorem b01_le (p : Bool) : b01 p ≤ 1 := by cases p <;> decide
/-- rows seen that tell of a corner are so, by these hours up to the last minute -/
def soB (n : Nat) (ra rc rh : Nat → Nat) (o last : Nat) (f : Nat → Nat) : Bool := (List.range n).all (fun i => decide (rc i = o → ra i ≤ last ∧ f (ra i) = rh i))
theorem soB_iff {n : Nat} {ra rc rh : Nat → Nat} {o last : Nat} {f : Nat → Nat} : soB n ra rc rh o last f = true ↔ ∀ i, i < n → rc i = o → ra i ≤ last ∧ f (ra i) = rh i := by
  unfold soB
  rw [List.all_eq_true]
  constructor
  · intro h i hi
    exact of_decide_eq_true (h i (List.mem_range.mpr hi))
  · intro h i hi
    exact decide_eq_true (h i (List.mem_range.mp hi))
def XRw (n nc : Nat) (ra rc rh : Nat → Nat) (M : Mem) : Prop := n ≤ 16 ∧ gI M 2688 = nI n ∧ ∀ k, k < n → ra k ≤ 40 ∧ rc k < nc ∧ rh k ≤ 23 ∧ gA M 22 k = nI (ra k) ∧ gA M 23 k = nI (rc k) ∧ gA M 24 k = nI (rh k)
def YRw (n nc : Nat) (ra rc rh : Nat → Nat) (M : Mem) : Prop := n ≤ 16 ∧ gI M 61 = nI n ∧ ∀ k, k < n → ra k ≤ 40 ∧ rc k < nc ∧ rh k ≤ 23 ∧ gA M 39 k = nI (ra k) ∧ gA M 40 k = nI (rc k) ∧ gA M 41 k = nI (rh k)
theorem XRw.fr {n nc : Nat} {ra rc rh : Nat → Nat} {A : Nat → Prop} {M M' : Mem} (h : XRw n nc ra rc rh M) (f : XF A M M') (hA : ∀ a, A a → ¬ (22 ≤ a ∧ a ≤ 24)) : XRw n nc ra rc rh M' := ⟨h.1, (f.2.2.2.2 2688 (by decide)).trans h.2.1, fun k hk => by
  rw [f.gA (a := 22) (fun z => hA 22 z (by decide)) (by decide), f.gA (a := 23) (fun z => hA 23 z (by decide)) (by decide), f.gA (a := 24) (fun z => hA 24 z (by decide)) (by decide)]
  exact h.2.2 k hk⟩
theorem RN.rows {nc : Nat} {MX MY : Mem} (h : RN nc MX MY) (h5 : nc ≤ 5) : ∃ n ra rc rh, XRw n nc ra rc rh MX ∧ YRw n nc ra rc rh MY := by
  obtain ⟨n, n1, n2, n3, n4⟩ := h
  refine ⟨n, fun k => (gA MX 22 k).toNatClampNeg, fun k => (gA MX 23 k).toNatClampNeg, fun k => (gA MX 24 k).toNatClampNeg, ⟨n1, n2, fun k hk => ?_⟩, ⟨n1, n3, fun k hk => ?_⟩⟩
  · obtain ⟨a, c, h, a1, a2, a3, a4, a5, a6, a7, a8, a9⟩ := n4 k hk
    dsimp only
    rw [a4, a6, a8, nI_clamp (by omega), nI_clamp (by omega), nI_clamp (by omega)]
    exact ⟨a1, a2, a3, rfl, rfl, rfl⟩
  · obtain ⟨a, c, h, a1, a2, a3, a4, a5, a6, a7, a8, a9⟩ := n4 k hk
    dsimp only
    rw [a4, a6, a8, a5, a7, a9, nI_clamp (by omega), nI_clamp (by omega), nI_clamp (by omega)]
    exact ⟨a1, a2, a3, rfl, rfl, rfl⟩
abbrev xabL (n0 : Nat) : Nat → Int32 → Int32 → Mem → Option (Int32 × Mem) := loopN (bX5_isAbout_2 n0) (fun _ _ _ => none)
theorem xabout {n0 n nc o : Nat} {ra rc rh : Nat → Nat} {M : Mem} (hR : XRw n nc ra rc rh M) (h5 : nc ≤ 5) (ho : o < 5) : ∀ w i, i ≤ n → n < w + i → (∀ j, j < i → ¬ rc j = o) → (xabL n0 w (nI o) (nI i) M = some (1, M)) ∨ (xabL n0 w (nI o) (nI i) M = some (0, M) ∧ ∀ j, j < n → ¬ rc j = o)
  | 0, i, hi, hw, _ => by omega
  | w + 1, i, hi, hw, hj => by
    show (bX5_isAbout_2 n0 (xabL n0 w) (nI o) (nI i) M = _) ∨ (bX5_isAbout_2 n0 (xabL n0 w) (nI o) (nI i) M = _ ∧ _)
    have h16 := hR.1
    unfold bX5_isAbout_2
    by_cases g : i = n
    · exact Or.inr ⟨eq_t (by rw [hR.2.1, g]; exact Int32.le_refl _) rfl, fun j hjn => hj j (by omega)⟩
    · have ci : (nI i).toNatClampNeg = i := nI_clamp (by omega)
      obtain ⟨r1, r2, r3, r4, r5, r6⟩ := hR.2.2 i (by omega)
      have st : ¬ gI M 2688 ≤ nI i := by rw [hR.2.1]; exact nI_ge (by omega) (by omega)
      have oi : ¬ oob (nI i) 16 := nI_in (by omega) (by decide)
      by_cases z : rc i = o
      · exact Or.inl (eq_f st (eq_f oi (eq_t (by rw [ci, r5, z]) rfl)))
      · have k1 : nI i + 1 = nI (i + 1) := nI_add i 1
        rcases xabout hR h5 ho w (i + 1) (by omega) (by omega) (fun j hj2 => by
          by_cases y : j = i
          · rw [y]; exact z
          · exact hj j (by omega)) with r | ⟨r, s⟩
        · exact Or.inl (eq_f st (eq_f oi (eq_f (by rw [ci, r5]; exact fun y => z ((nI_eq (by omega) (by omega)).mp y)) (by rw [k1]; exact r))))
        · exact Or.inr ⟨eq_f st (eq_f oi (eq_f (by rw [ci, r5]; exact fun y => z ((nI_eq (by omega) (by omega)).mp y)) (by rw [k1]; exact r))), s⟩
abbrev xsoL (n0 : Nat) : Nat → Int32 → Int32 → Int32 → Mem → Option (Int32 × Mem) := loopN (bX5_isSo_3 n0 26) (fun _ _ _ _ => none)
theorem xso {n0 n nc o last : Nat} {ra rc rh : Nat → Nat} {f : Nat → Nat} {M : Mem} (hR : XRw n nc ra rc rh M) (h5 : nc ≤ 5) (ho : o < 5) (hl : last ≤ 40) (hf : ∀ j, j ≤ last → gA M 26 j = nI (f j) ∧ f j ≤ 23) : ∀ w i, i ≤ n → n < w + i → (∀ j, j < i → rc j = o → ra j ≤ last ∧ f (ra j) = rh j) → xsoL n0 w (nI o) (nI last) (nI i) M = some (bI (soB n ra rc rh o last f = true), M)
  | 0, i, hi, hw, _ => by omega
  | w + 1, i, hi, hw, hj => by
    show bX5_isSo_3 n0 26 (xsoL n0 w) (nI o) (nI last) (nI i) M = _
    have h16 := hR.1
    have ln26 : LX.ln 26 = 61 := rfl
    unfold bX5_isSo_3
    by_cases g : i = n
    · rw [bI_t (soB_iff.mpr (fun j hjn => hj j (by omega)))]
      exact eq_t (by rw [hR.2.1, g]; exact Int32.le_refl _) rfl
    · have ci : (nI i).toNatClampNeg = i := nI_clamp (by omega)
      obtain ⟨r1, r2, r3, r4, r5, r6⟩ := hR.2.2 i (by omega)
      have st : ¬ gI M 2688 ≤ nI i := by rw [hR.2.1]; exact nI_ge (by omega) (by omega)
      have oi : ¬ oob (nI i) 16 := nI_in (by omega) (by decide)
      have k1 : nI i + 1 = nI (i + 1) := nI_add i 1
      have a22 : gA M 22 (nI i).toNatClampNeg = nI (ra i) := by rw [ci, r4]
      have a23 : gA M 23 (nI i).toNatClampNeg = nI (rc i) := by rw [ci, r5]
      have a24 : gA M 24 (nI i).toNatClampNeg = nI (rh i) := by rw [ci, r6]
      have bad : ¬ (rc i = o → ra i ≤ last ∧ f (ra i) = rh i) → bI (soB n ra rc rh o last f = true) = 0 := fun z => bI_f (fun y => z (soB_iff.mp y i (by omega)))
      have nxt : (rc i = o → ra i ≤ last ∧ f (ra i) = rh i) → fX5_isSo_79 n0 26 (xsoL n0 w) (nI o) (nI last) (nI i) M = some (bI (soB n ra rc rh o last f = true), M) := fun z => by
        unfold fX5_isSo_79
        rw [k1]
        exact xso hR h5 ho hl hf w (i + 1) (by omega) (by omega) (fun j hj2 => by
          by_cases y : j = i
          · rw [y]; exact z
          · exact hj j (by omega))
      by_cases z : rc i = o
      · refine eq_f st (eq_f oi (eq_t (by rw [a23, z]) (eq_f oi ?_)))
        by_cases y : ra i ≤ last
        · have e1 : ¬ nI last < gA M 22 (nI i).toNatClampNeg := by rw [a22]; exact fun u => by have := (nI_ltI (by omega) (by omega)).mp u; omega
          have e2 : ¬ Int32.ofNat (LX.ln 26) ≤ gA M 22 (nI i).toNatClampNeg := by rw [a22, ln26]; exact nI_ge (b := 61) (by omega) (by decide)
          have e3 : gA M 26 (gA M 22 (nI i).toNatClampNeg).toNatClampNeg = nI (f (ra i)) := by rw [a22, nI_clamp (by omega)]; exact (hf _ y).1
          have e4 := (hf _ y).2
          refine eq_f e1 (eq_f oi (eq_f e2 ?_))
          unfold fX5_isSo_51
          refine eq_f (by decide) (eq_f oi (eq_f (by rw [a22, ln26]; exact nI_in (by omega) (by decide)) (eq_f oi ?_)))
          by_cases x : f (ra i) = rh i
          · exact eq_t (by rw [e3, a24, x]) (nxt (fun _ => ⟨y, x⟩))
          · rw [bad (fun u => x (u z).2)]
            exact eq_f (by rw [e3, a24]; exact fun u => x ((nI_eq (by omega) (by omega)).mp u)) rfl
        · rw [bad (fun u => y (u z).1)]
          refine eq_t (by rw [a22]; exact nI_lt (by omega) (by omega)) ?_
          unfold fX5_isSo_50 fX5_isSo_51
          exact eq_t rfl rfl
      · exact eq_f st (eq_f oi (eq_f (by rw [a23]; exact fun y => z ((nI_eq (by omega) (by omega)).mp y)) (nxt (fun u => absurd u z))))
theorem ln83 : ∀ j, j < 7 → LX.ln (83 + j) = 41 := by decide +kernel
abbrev xnL (n0 : Nat) : Nat → Int32 → Int32 → Int32 → Mem → Option Mem := loopN (bX5_noteHours_14 n0 26) (fun _ _ _ _ => none)
theorem xnote {n0 u last : Nat} (hu : u < 7) (hl : last ≤ 40) : ∀ w k M, k ≤ last + 1 → last + 1 < w + k → ∃ M', xnL n0 w (nI u) (nI last) (nI k) M = some M' ∧ (∀ j, k ≤ j → j ≤ last → gA M' (83 + u) j = gA M 26 j) ∧ gR M' = gR M ∧ gL M' = gL M ∧ gB M' = gB M ∧ gI M' = gI M ∧ ∀ a i, ¬ (a = 83 + u ∧ k ≤ i) → gA M' a i = gA M a i
  | 0, k, M, hk, hw => by omega
  | w + 1, k, M, hk, hw => by
    show ∃ M', bX5_noteHours_14 n0 26 (xnL n0 w) (nI u) (nI last) (nI k) M = _ ∧ _
    have ln26 : LX.ln 26 = 61 := rfl
    unfold bX5_noteHours_14
    by_cases g : k = last + 1
    · exact ⟨M, eq_t (nI_lt (by omega) (by omega)) rfl, fun j h1 h2 => by omega, rfl, rfl, rfl, rfl, fun _ _ _ => rfl⟩
    · have ck : (nI k).toNatClampNeg = k := nI_clamp (by omega)
      have cu : (nI u).toNatClampNeg = u := nI_clamp (by omega)
      obtain ⟨M', r1, r2, r3, r4, r5, r6, r7⟩ := xnote (n0 := n0) hu hl w (k + 1) (sA M (83 + u) k (gA M 26 k)) (by omega) (by omega)
      refine ⟨M', eq_f (fun z => by have := (nI_ltI (by omega) (by omega)).mp z; omega) (eq_f (fun z => by have := (nI_ltI (a := 40) (by decide) (by omega)).mp z; omega) (eq_f (by rw [ln26]; exact nI_ge (b := 61) (by omega) (by decide)) (eq_f (nI_in hu (by decide)) (eq_f (by rw [ln26]; exact nI_in (by omega) (by decide)) (eq_f (by rw [cu, ln83 u hu]; exact nI_in (by omega) (by decide)) (eq_e (v' := sA M (83 + u) k (gA M 26 k)) (by rw [cu, ck]) ?_)))))), fun j h1 h2 => ?_, r3, r4, r5, r6, fun a i z => ?_⟩
      · rw [show nI k + 1 = nI (k + 1) from nI_add k 1]
        exact r1
      · by_cases h : j = k
        · rw [h, r7 (83 + u) k (by omega), gA_sA, if_pos rfl, if_pos rfl]
        · rw [r2 j (by omega) h2, gA_sA_ne (by omega)]
      · rw [r7 a i (by omega), gA_sA]
        by_cases h : a = 83 + u
        · rw [if_pos h, if_neg (by omega), h]
        · rw [if_neg h]
def hA (a : Nat) : Prop := a = 26 ∨ (83 ≤ a ∧ a < 90)
theorem hA31 : ∀ a, hA a → a < 31 ∨ 63 ≤ a := fun a z => by unfold hA at z; omega
theorem hAst : ∀ a, hA a → ¬ stA a := fun a z y => by unfold hA at z; unfold stA at y; omega
theorem hA22 : ∀ a, hA a → ¬ (22 ≤ a ∧ a ≤ 24) := fun a z => by unfold hA at z; omega
theorem hAsc {M M' : Mem} (f : XF hA M M') : XF scA M M' := f.wk (fun a z => by unfold hA at z; unfold scA; omega)
/-- the hours of a corner with the thing of each choice -/
def hby (T : TP) (c m u : Nat) : Nat → Nat := hrs T.hF T.gF c m (thI u, 0)
abbrev xhdL (n0 : Nat) : Nat → Int32 → Int32 → Int32 → Mem → Option (Int32 × Mem) := loopN (bX11_findHeld_69 n0) (fun _ _ _ _ => none)
theorem xhd69 {n0 q c m n : Nat} {T : TP} {pm : Nat → Int32 × Nat} {s : Nat × List (Nat × Nat)} {ra rc rh : Nat → Nat} (hn : 1700 ≤ n0) (hc : c < T.nc) (hm : m ≤ 9999) (h23 : ∀ u j, u ≤ T.nt → j ≤ min 40 (9999 - m) → hby T c m u j ≤ 23) :
    ∀ w u M, u ≤ T.nt + 1 → T.nt + 1 < w + u → XT n0 q T M → SX q T.nc T.nd m pm s M → gR M 1 = q → XRw n T.nc ra rc rh M → (∀ v j, v < u → j ≤ min 40 (9999 - m) → gA M (83 + v) j = nI (hby T c m v j)) →
    ∃ M', xhdL n0 w (nI c) (nI (Dn (fun v => b01 (soB n ra rc rh c (min 40 (9999 - m)) (hby T c m v))) u)) (thI u) M = some (nI (Dn (fun v => b01 (soB n ra rc rh c (min 40 (9999 - m)) (hby T c m v))) (T.nt + 1)), M') ∧ (∀ v j, v ≤ T.nt → j ≤ min 40 (9999 - m) → gA M' (83 + v) j = nI (hby T c m v j)) ∧ XF hA M M'
  | 0, u, M, hu, hw, _, _, _, _, _ => by omega
  | w + 1, u, M, hu, hw, hT, hS, hq, hR, hB => by
    show ∃ M', bX11_findHeld_69 n0 (xhdL n0 w) (nI c) _ (thI u) M = _ ∧ _
    obtain ⟨o1, o2, o3, _⟩ := hT.2.1
    have q1 : gI M (128 * gR M 1 + 1) = nI T.nt := by rw [hq]; exact hT.1.2.2.1
    unfold bX11_findHeld_69
    by_cases g : u = T.nt + 1
    · subst g
      exact ⟨M, eq_t (by rw [q1, ← thI_s]; exact Int32.le_refl _) rfl, fun v j hv hj => hB v j (by omega) hj, XF.r⟩
    · have tO : tOk T.nt (thI u) := thI_ok (by omega)
      have f1 : XF hA M (hld M (nI c) (thI u) (nI 0) (nI m)) := hld_f
      obtain ⟨M2, e1, e2, e3⟩ := xfor (n0 := n0) (q1 := 26) (most := 40) hn (hT.1.xf f1 hA31) (hld_p (h := 0) hS.1) (by omega) ⟨tO, Nat.zero_le _⟩ hm (by decide) (Or.inl rfl)
      have f2 : XF hA M M2 := f1.tr (e3.wk (fun a z => Or.inl z))
      obtain ⟨M3, d1, d2, d3, d4, d5, d6, d7⟩ := xnote (n0 := n0) (u := u) (last := min 40 (9999 - m)) (by omega) (by omega) n0 0 M2 (by omega) (by omega)
      have f3 : XF hA M2 M3 := ⟨d3, d4, d5, fun a z => by funext i; exact d7 a i (fun y => z (Or.inr (Or.inr (by unfold hA; omega)))), fun k _ => by rw [d6]⟩
      have f4 := f2.tr f3
      have R3 := hR.fr f4 hA22
      have a26 : gA M3 26 = gA M2 26 := by funext i; exact d7 26 i (by omega)
      have sv := xso (n0 := n0) (f := hby T c m u) R3 o2 (by omega : c < 5) (show min 40 (9999 - m) ≤ 40 by omega) (fun j hj => ⟨by rw [a26]; exact e2 j hj, h23 u j (by omega) hj⟩) n0 0 (by omega) (by have := R3.1; omega) (fun j hj => by omega)
      have b83 : ∀ v j, v < u + 1 → j ≤ min 40 (9999 - m) → gA M3 (83 + v) j = nI (hby T c m v j) := fun v j hv hj => by
        by_cases z : v = u
        · rw [z, d2 j (by omega) hj]
          exact e2 j hj
        · rw [d7 (83 + v) j (by omega), e3.gA (a := 83 + v) (by omega) (by omega)]
          exact hB v j (by omega) hj
      have D7 := Dn7 (f := fun v => b01 (soB n ra rc rh c (min 40 (9999 - m)) (hby T c m v))) (fun d => b01_le _) u (by omega)
      have P7 := p128 (n := u) (by omega)
      obtain ⟨M', r1, r2, r3⟩ := xhd69 (ra := ra) (rc := rc) (rh := rh) (n := n) hn hc hm h23 w (u + 1) M3 (by omega) (by omega) (hT.xf f4 hA31) (hS.fr f4 hAst) (by rw [f4.1]; exact hq) R3 b83
      refine ⟨M', ?_, r2, f4.tr r3⟩
      have tu : thI u + 1 = nI u := thI_1 u
      refine eq_f (by rw [q1]; exact thI_lt (by omega) o1) (eq_b (z := hld M (nI c) (thI u) (nI 0) (nI m)) (by rw [hS.2.2.1]; exact xhold) (eq_b e1 (eq_b (z := M3) ?_ (eq_b sv ?_))))
      · unfold fX5_noteHours
        rw [tu]
        exact eq_f (nI_nn (by omega)) (eq_t (nI_lt (b := 7) (by omega) (by decide)) d1)
      · have step : Dn (fun v => b01 (soB n ra rc rh c (min 40 (9999 - m)) (hby T c m v))) (u + 1) = Dn (fun v => b01 (soB n ra rc rh c (min 40 (9999 - m)) (hby T c m v))) u + b01 (soB n ra rc rh c (min 40 (9999 - m)) (hby T c m u)) * 2 ^ u := rfl
        by_cases z : soB n ra rc rh c (min 40 (9999 - m)) (hby T c m u) = true
        · refine eq_f (show ¬ bI (soB n ra rc rh c (min 40 (9999 - m)) (hby T c m u) = true) = 0 by rw [bI_t z]; decide) (eq_e (v' := nI (Dn (fun v => b01 (soB n ra rc rh c (min 40 (9999 - m)) (hby T c m v))) (u + 1))) ?_ ?_)
          · rw [tu, b7_or u (by omega) _ (by omega) D7.1, step, z]
            congr 2
            show 2 ^ u = 1 * 2 ^ u
            omega
          · unfold fX11_findHeld_153
            rw [tu, thI_s]
            exact r1
        · refine eq_t (show bI (soB n ra rc rh c (min 40 (9999 - m)) (hby T c m u) = true) = 0 from bI_f z) ?_
          unfold fX11_findHeld_153
          rw [tu, thI_s]
          have e0 : b01 (soB n ra rc rh c (min 40 (9999 - m)) (hby T c m u)) = 0 := if_neg z
          rw [step, e0, Nat.zero_mul, Nat.add_zero] at r1
          exact r1
abbrev xh2L (n0 : Nat) : Nat → Int32 → Int32 → Mem → Option (Int32 × Mem) := loopN (bX11_findHeld_2 n0) (fun _ _ _ => none)
theorem xhd2 {n0 q b c m n : Nat} {T : TP} {pm : Nat → Int32 × Nat} {s : Nat × List (Nat × Nat)} {ra rc rh : Nat → Nat} {MY : Mem} (hn : 1700 ≤ n0) (hY : YT n0 b T MY) (hc : c < T.nc) (hm : m ≤ 9999) (hO : PsO T.nt T.nc pm) :
    ∀ w o M, o ≤ T.nc → T.nc < w + o → XT n0 q T M → SX q T.nc T.nd m pm s M → gR M 1 = q → XRw n T.nc ra rc rh M → (∀ j, j < o → ¬ j = c → soB n ra rc rh j (min 40 (9999 - m)) (hrs T.hF T.gF j m (pm j)) = true) →
    ∃ M', XF hA M M' ∧ ((xh2L n0 w (nI c) (nI o) M = fX11_findHeld_69 n0 (nI c) 0 (-1) M' ∧ ∀ j, j < T.nc → ¬ j = c → soB n ra rc rh j (min 40 (9999 - m)) (hrs T.hF T.gF j m (pm j)) = true) ∨ (xh2L n0 w (nI c) (nI o) M = some (0, M') ∧ ∃ j, j < T.nc ∧ ¬ j = c ∧ ¬ soB n ra rc rh j (min 40 (9999 - m)) (hrs T.hF T.gF j m (pm j)) = true))
  | 0, o, M, ho, hw, _, _, _, _, _ => by omega
  | w + 1, o, M, ho, hw, hT, hS, hq, hR, hj => by
    show ∃ M', XF hA M M' ∧ ((bX11_findHeld_2 n0 (xh2L n0 w) (nI c) (nI o) M = _ ∧ _) ∨ (bX11_findHeld_2 n0 (xh2L n0 w) (nI c) (nI o) M = _ ∧ _))
    obtain ⟨o1, o2, o3, _⟩ := hT.2.1
    have q5 : gI M (128 * gR M 1 + 5) = nI T.nc := by rw [hq]; exact hT.2.2.1
    have k1 : nI o + 1 = nI (o + 1) := nI_add o 1
    unfold bX11_findHeld_2
    by_cases g : o = T.nc
    · exact ⟨M, XF.r, Or.inl ⟨eq_t (by rw [q5, g]; exact Int32.le_refl _) rfl, fun j hjn => hj j (by omega)⟩⟩
    · have st : ¬ gI M (128 * gR M 1 + 5) ≤ nI o := by rw [q5]; exact nI_ge (by omega) (by omega)
      have nxt : ∀ M2, XF hA M M2 → (¬ o = c → soB n ra rc rh o (min 40 (9999 - m)) (hrs T.hF T.gF o m (pm o)) = true) → ∃ M', XF hA M M' ∧ ((fX11_findHeld_59 n0 (xh2L n0 w) (nI c) (nI o) M2 = fX11_findHeld_69 n0 (nI c) 0 (-1) M' ∧ ∀ j, j < T.nc → ¬ j = c → soB n ra rc rh j (min 40 (9999 - m)) (hrs T.hF T.gF j m (pm j)) = true) ∨ (fX11_findHeld_59 n0 (xh2L n0 w) (nI c) (nI o) M2 = some (0, M') ∧ ∃ j, j < T.nc ∧ ¬ j = c ∧ ¬ soB n ra rc rh j (min 40 (9999 - m)) (hrs T.hF T.gF j m (pm j)) = true)) := fun M2 f2 z => by
        obtain ⟨M', r1, r2⟩ := xhd2 hn hY hc hm hO w (o + 1) M2 (by omega) (by omega) (hT.xf f2 hA31) (hS.fr f2 hAst) (by rw [f2.1]; exact hq) (hR.fr f2 hA22) (fun j hj2 hne => by
          by_cases y : j = o
          · rw [y]; exact z (by rw [← y]; exact hne)
          · exact hj j (by omega) hne)
        refine ⟨M', f2.tr r1, ?_⟩
        unfold fX11_findHeld_59
        rw [k1]
        exact r2
      by_cases z : o = c
      · obtain ⟨M', r1, r2⟩ := nxt M XF.r (fun y => absurd z y)
        refine ⟨M', r1, ?_⟩
        rcases r2 with ⟨s1, s2⟩ | ⟨s1, s2⟩
        · exact Or.inl ⟨eq_f st (eq_t (by rw [z]) s1), s2⟩
        · exact Or.inr ⟨eq_f st (eq_t (by rw [z]) s1), s2⟩
      · have hne : ¬ nI o = nI c := fun y => z ((nI_eq (by omega) (by omega)).mp y)
        rcases xabout (n0 := n0) hR o2 (show o < 5 by omega) n0 0 (by omega) (by have := hR.1; omega) (fun j hj => by omega) with e | ⟨e, e'⟩
        · obtain ⟨M2, a1, a2, a3⟩ := xfc (n0 := n0) (q1 := 26) (most := 40) hn hT hS hO (show o < T.nc by omega) hm (by decide) (Or.inl rfl)
          have f2 : XF hA M M2 := a3.wk (fun a y => Or.inl y)
          have sv := xso (n0 := n0) (f := hrs T.hF T.gF o m (pm o)) (hR.fr f2 hA22) o2 (show o < 5 by omega) (show min 40 (9999 - m) ≤ 40 by omega) (fun j hj => ⟨a2 j hj, hrs_le hY (by omega) (hO o (by omega)) (by omega)⟩) n0 0 (by omega) (by have := hR.1; omega) (fun j hj => by omega)
          by_cases y : soB n ra rc rh o (min 40 (9999 - m)) (hrs T.hF T.gF o m (pm o)) = true
          · obtain ⟨M', r1, r2⟩ := nxt M2 f2 (fun _ => y)
            refine ⟨M', r1, ?_⟩
            have yy : ¬ bI (soB n ra rc rh o (min 40 (9999 - m)) (hrs T.hF T.gF o m (pm o)) = true) = 0 := by rw [bI_t y]; decide
            rcases r2 with ⟨s1, s2⟩ | ⟨s1, s2⟩
            · exact Or.inl ⟨eq_f st (eq_f hne (eq_b e (eq_f (show ¬ (1 : Int32) = 0 by decide) (eq_b a1 (eq_b sv (eq_f yy s1)))))), s2⟩
            · exact Or.inr ⟨eq_f st (eq_f hne (eq_b e (eq_f (show ¬ (1 : Int32) = 0 by decide) (eq_b a1 (eq_b sv (eq_f yy s1)))))), s2⟩
          · exact ⟨M2, f2, Or.inr ⟨eq_f st (eq_f hne (eq_b e (eq_f (show ¬ (1 : Int32) = 0 by decide) (eq_b a1 (eq_b sv (eq_t (bI_f y) rfl)))))), o, by omega, z, y⟩⟩
        · obtain ⟨M', r1, r2⟩ := nxt M XF.r (fun _ => soB_iff.mpr (fun i hi hrc => absurd hrc (e' i hi)))
          refine ⟨M', r1, ?_⟩
          rcases r2 with ⟨s1, s2⟩ | ⟨s1, s2⟩
          · exact Or.inl ⟨eq_f st (eq_f hne (eq_b e (eq_t rfl s1))), s2⟩
          · exact Or.inr ⟨eq_f st (eq_f hne (eq_b e (eq_t rfl s1))), s2⟩
/-- what could have been held, as bits -/
theorem xheld {n0 q b c m n : Nat} {T : TP} {pm : Nat → Int32 × Nat} {s : Nat × List (Nat × Nat)} {ra rc rh : Nat → Nat} {M MY : Mem} (hn : 1700 ≤ n0) (hY : YT n0 b T MY) (hc : c < T.nc) (hm : m ≤ 9999) (hO : PsO T.nt T.nc pm) (hT : XT n0 q T M) (hS : SX q T.nc T.nd m pm s M) (hq : gR M 1 = q) (hR : XRw n T.nc ra rc rh M) :
    ∃ M', XF hA M M' ∧ ((fX11_findHeld n0 (nI c) M = some (nI (Dn (fun v => b01 (soB n ra rc rh c (min 40 (9999 - m)) (hby T c m v))) (T.nt + 1)), M') ∧ (∀ j, j < T.nc → ¬ j = c → soB n ra rc rh j (min 40 (9999 - m)) (hrs T.hF T.gF j m (pm j)) = true) ∧ (∀ v j, v ≤ T.nt → j ≤ min 40 (9999 - m) → gA M' (83 + v) j = nI (hby T c m v j))) ∨ (fX11_findHeld n0 (nI c) M = some (0, M') ∧ ∃ j, j < T.nc ∧ ¬ j = c ∧ ¬ soB n ra rc rh j (min 40 (9999 - m)) (hrs T.hF T.gF j m (pm j)) = true)) := by
  obtain ⟨o1, o2, o3, _⟩ := hT.2.1
  obtain ⟨M1, f1, r⟩ := xhd2 (n0 := n0) (n := n) (ra := ra) (rc := rc) (rh := rh) hn hY hc hm hO n0 0 M (by omega) (by omega) hT hS hq hR (fun j hj => by omega)
  rcases r with ⟨r1, r2⟩ | ⟨r1, r2⟩
  · obtain ⟨M2, s1, s2, s3⟩ := xhd69 (n0 := n0) (n := n) (ra := ra) (rc := rc) (rh := rh) hn hc hm (fun u j hu hj => hrs_le hY hc ⟨thI_ok hu, Nat.zero_le _⟩ (by omega)) n0 0 M1 (by omega) (by omega) (hT.xf f1 hA31) (hS.fr f1 hAst) (by rw [f1.1]; exact hq) (hR.fr f1 hA22) (fun v j hv => by omega)
    exact ⟨M2, f1.tr s3, Or.inl ⟨r1.trans s1, r2, s2⟩⟩
  · exact ⟨M1, f1, Or.inr ⟨r1, r2⟩⟩
