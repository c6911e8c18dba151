/-! ONE PALM AS IT GOES ON, BY THE CLASS -/
def tk (gF : GF) (c m : Nat) (p : Int32 × Nat) : Int32 × Nat := if ¬ p.1 = -1 ∧ gF c p.1 (min 999 (p.2 + 1)) m = true then (-1, 0) else (p.1, min 999 (p.2 + 1))
def tr (gF : GF) (c m : Nat) (p : Int32 × Nat) : Nat → Int32 × Nat
  | 0 => p
  | k + 1 => tk gF c (m + k + 1) (tr gF c m p k)
def pOk (nt : Nat) (p : Int32 × Nat) : Prop := tOk nt p.1 ∧ p.2 ≤ 999
theorem tk_ok {nt c m : Nat} {gF : GF} {p : Int32 × Nat} (h : pOk nt p) : pOk nt (tk gF c m p) := by
  unfold tk pOk
  by_cases g : ¬ p.1 = -1 ∧ gF c p.1 (min 999 (p.2 + 1)) m = true
  · rw [if_pos g]; exact ⟨Or.inl rfl, Nat.zero_le _⟩
  · rw [if_neg g]; exact ⟨h.1, Nat.min_le_left _ _⟩
theorem tr_ok {nt c m : Nat} {gF : GF} {p : Int32 × Nat} (h : pOk nt p) : ∀ k, pOk nt (tr gF c m p k)
  | 0 => h
  | k + 1 => tk_ok (tr_ok h k)
/-- the hours of a palm: now, and k minutes on -/
def hrs (hF : HF) (gF : GF) (c m : Nat) (p : Int32 × Nat) (k : Nat) : Nat := hF c (tr gF c m p k).1 (tr gF c m p k).2 (m + k)
/-- what the class may change beside the arrays A while palms go on -/
def XF (A : Nat → Prop) (M M' : Mem) : Prop := gR M' = gR M ∧ gL M' = gL M ∧ gB M' = gB M ∧ (∀ a, ¬ (a = 8 ∨ a = 9 ∨ A a) → gA M' a = gA M a) ∧ ∀ k, ¬ ((897 ≤ k ∧ k ≤ 900) ∨ k = 903) → gI M' k = gI M k
theorem XF.r {A : Nat → Prop} {M : Mem} : XF A M M := ⟨rfl, rfl, rfl, fun _ _ => rfl, fun _ _ => rfl⟩
theorem XF.tr {A : Nat → Prop} {M M' M2 : Mem} (h : XF A M M') (g : XF A M' M2) : XF A M M2 := ⟨g.1.trans h.1, g.2.1.trans h.2.1, g.2.2.1.trans h.2.2.1, fun a z => (g.2.2.2.1 a z).trans (h.2.2.2.1 a z), fun a z => (g.2.2.2.2 a z).trans (h.2.2.2.2 a z)⟩
theorem XF.wk {A A' : Nat → Prop} {M M' : Mem} (h : XF A M M') (g : ∀ a, A a → A' a) : XF A' M M' := ⟨h.1, h.2.1, h.2.2.1, fun a z => h.2.2.2.1 a (fun e => z (by rcases e with e | e | e; exact Or.inl e; exact Or.inr (Or.inl e); exact Or.inr (Or.inr (g a e)))), h.2.2.2.2⟩
theorem XF.n {A : Nat → Prop} {M M' : Mem} (h : XF noN M M') : XF A M M' := h.wk (fun _ z => z.elim)
theorem XF.i {A : Nat → Prop} {M M' : Mem} {k : Nat} {v : Int32} (h : XF A M M') (hk : (897 ≤ k ∧ k ≤ 900) ∨ k = 903) : XF A M (sI M' k v) := ⟨h.1, h.2.1, h.2.2.1, h.2.2.2.1, fun j z => by rw [gI_ne (fun e => z (by rw [e]; exact hk))]; exact h.2.2.2.2 j z⟩
theorem XF.a {A : Nat → Prop} {M M' : Mem} {a i : Nat} {v : Int32} (h : XF A M M') (hk : A a) : XF A M (sA M' a i v) := ⟨h.1, h.2.1, h.2.2.1, fun j z => by rw [gA_sA_ne (fun e => z (by rw [e]; exact Or.inr (Or.inr hk)))]; exact h.2.2.2.1 j z, h.2.2.2.2⟩
theorem VX2.x {A : Nat → Prop} {M M' : Mem} (h : VX2 M M') : XF A M M' := ⟨h.1, h.2.1, h.2.2.1, fun a z => h.2.2.2.1 a (fun e => z (by omega)), fun k z => h.2.2.2.2 k (fun e => z (Or.inr e))⟩
theorem XF.tw {A : Nat → Prop} {M M' : Mem} {q : Nat} (h : XF A M M') (hq : q = 31 ∨ q = 47) (hA : ∀ a, A a → a < 31 ∨ 63 ≤ a) : xTw q M M' := ⟨fun j _ _ => h.2.2.2.2 j (by omega), fun a h1 h2 => h.2.2.2.1 a (fun e => by
  rcases e with e | e | e
  · omega
  · omega
  · have := hA a e; omega)⟩
theorem VX2.pm {M M' : Mem} {q c h m : Nat} {t : Int32} (f : VX2 M M') (hX : PmX q c t h m M) : PmX q c t h m M' := ⟨by rw [f.1]; exact hX.1, (f.2.2.2.2 897 (by decide)).trans hX.2.1, (f.2.2.2.2 898 (by decide)).trans hX.2.2.1, (f.2.2.2.2 899 (by decide)).trans hX.2.2.2.1, (f.2.2.2.2 900 (by decide)).trans hX.2.2.2.2⟩
def hld (M : Mem) (x1 x2 x3 x4 : Int32) : Mem := sI (sI (sI (sI M 897 x1) 898 x2) 899 x3) 900 x4
theorem xhold {n0 : Nat} {x1 x2 x3 x4 : Int32} {M : Mem} : fX1_hold n0 x1 x2 x3 x4 M = some (hld M x1 x2 x3 x4) := rfl
theorem hld_f {A : Nat → Prop} {x1 x2 x3 x4 : Int32} {M : Mem} : XF A M (hld M x1 x2 x3 x4) := by
  unfold hld
  exact (((XF.r.i (by omega)).i (by omega)).i (by omega)).i (by omega)
theorem hld_p {q c h m : Nat} {t : Int32} {M : Mem} (hR : gR M 896 = q) : PmX q c t h m (hld M (nI c) t (nI h) (nI m)) := ⟨hR, rfl, rfl, rfl, rfl⟩
theorem imin_nI {a b : Nat} (ha : a < 2 ^ 31) (hb : b < 2 ^ 31) : imin (nI a) (nI b) = nI (min a b) := by
  unfold imin
  by_cases g : b < a
  · rw [if_pos (nI_lt g ha), Nat.min_eq_right (Nat.le_of_lt g)]
  · rw [if_neg (fun z => g ((nI_ltI hb ha).mp z)), Nat.min_eq_left (by omega)]
theorem imax_nI {a b : Nat} (ha : a < 2 ^ 31) (hb : b < 2 ^ 31) : imax (nI a) (nI b) = nI (max a b) := by
  unfold imax
  by_cases g : a < b
  · rw [if_pos (nI_lt g hb), Nat.max_eq_right (Nat.le_of_lt g)]
  · rw [if_neg (fun z => g ((nI_ltI ha hb).mp z)), Nat.max_eq_left (by omega)]
theorem xThN {n0 q : Nat} {M : Mem} : fX9_isThing n0 q (-1) M = some (0, M) := by
  unfold fX9_isThing
  exact eq_t (by decide) rfl
theorem nI_nn {k : Nat} (h : k < 2 ^ 31) : ¬ nI k < 0 := fun z => absurd (show oob (nI k) (k + 1) from Or.inl z) (by
  by_cases g : k + 1 < 2 ^ 31
  · exact nI_in (by omega) g
  · exact fun e => by
      have := (nI_ltI (a := k) (b := 0) h (by decide)).mp z
      omega)
theorem xThT {n0 q nt k : Nat} {M : Mem} (hN : gI M (128 * q + 1) = nI nt) (hnt : nt ≤ 6) (hk : k < nt) : fX9_isThing n0 q (nI k) M = some (1, M) := by
  unfold fX9_isThing
  rw [hN]
  exact eq_f (nI_nn (by omega)) (eq_f (nI_ge hk (by omega)) rfl)
/-- a town of the class, with its functions -/
def XTn (n0 q nt : Nat) (hF : HF) (gF : GF) (M0 : Mem) : Prop := (q = 31 ∨ q = 47) ∧ nt ≤ 6 ∧ gI M0 (128 * q + 1) = nI nt ∧ FnX n0 q nt hF gF M0
theorem XTn.tw {n0 q nt : Nat} {hF : HF} {gF : GF} {M M' : Mem} (h : XTn n0 q nt hF gF M) (t : xTw q M M') : XTn n0 q nt hF gF M' := ⟨h.1, h.2.1, (t.1 _ (by omega) (by omega)).trans h.2.2.1, h.2.2.2.tw t⟩
theorem XTn.xf {n0 q nt : Nat} {hF : HF} {gF : GF} {A : Nat → Prop} {M M' : Mem} (h : XTn n0 q nt hF gF M) (t : XF A M M') (hA : ∀ a, A a → a < 31 ∨ 63 ≤ a) : XTn n0 q nt hF gF M' := h.tw (t.tw h.1 hA)
theorem xhr {n0 q nt c h m : Nat} {t : Int32} {hF : HF} {gF : GF} {M : Mem} (T : XTn n0 q nt hF gF M) (hX : PmX q c t h m M) (hO : PmO nt c t h m) : hF c t h m ≤ 23 ∧ ∃ M', fX1_hourNow n0 M = some (nI (hF c t h m), M') ∧ PmX q c t h m M' ∧ XF noN M M' := by
  obtain ⟨h1, ⟨M', e, f⟩, _⟩ := T.2.2.2 M c t h m xTw.r hX hO
  exact ⟨h1, M', e, f.pm hX, f.x⟩
theorem xgo {n0 q nt c h m : Nat} {t : Int32} {hF : HF} {gF : GF} {M : Mem} (T : XTn n0 q nt hF gF M) (hX : PmX q c t h m M) (hO : PmO nt c t h m) (hm : m < 9999) :
    ∃ M', fX1_goOn n0 M = some M' ∧ PmX q c (tk gF c (m + 1) (t, h)).1 (tk gF c (m + 1) (t, h)).2 (m + 1) M' ∧ XF noN M M' := by
  obtain ⟨x0, x1, x2, x3, x4⟩ := hX
  obtain ⟨hc, ht, hh, hm2⟩ := hO
  have e1 : imin 9999 (gI M 900 + 1) = nI (m + 1) := by
    rw [x4, show nI m + 1 = nI (m + 1) from nI_add m 1, show (9999 : Int32) = nI 9999 from rfl, imin_nI (by omega) (by omega), Nat.min_eq_right (by omega)]
  have e2 : imin 999 (gI (sI M 900 (nI (m + 1))) 899 + 1) = nI (min 999 (h + 1)) := by
    rw [gI_ne (by decide), x3, show nI h + 1 = nI (h + 1) from nI_add h 1, show (999 : Int32) = nI 999 from rfl, imin_nI (by omega) (by omega)]
  have fM : XF noN M (sI (sI M 900 (nI (m + 1))) 899 (nI (min 999 (h + 1)))) := (XF.r.i (by omega)).i (by omega)
  have p1 : PmX q c t (min 999 (h + 1)) (m + 1) (sI (sI M 900 (nI (m + 1))) 899 (nI (min 999 (h + 1)))) := ⟨x0, x1, x2, rfl, rfl⟩
  have T1 := T.xf fM (fun _ z => z.elim)
  have start : ∀ r, Option.bind (fX9_isThing n0 q t (sI (sI M 900 (nI (m + 1))) 899 (nI (min 999 (h + 1))))) (fun z40 => if z40.1 = 0 then some z40.2 else xTst n0 z40.2) = r → fX1_goOn n0 M = r := fun r hr => by
    unfold fX1_goOn
    refine eq_e (v' := sI M 900 (nI (m + 1))) (by rw [e1]) (eq_e (v' := sI (sI M 900 (nI (m + 1))) 899 (nI (min 999 (h + 1)))) (by rw [e2]) ?_)
    rw [p1.1, p1.2.2.1]
    exact hr
  rcases ht with ht | ⟨k, hk, ht⟩
  · refine ⟨_, start _ (by rw [ht]; exact eq_b xThN (eq_t rfl rfl)), ?_, fM⟩
    have e3 : tk gF c (m + 1) (t, h) = (t, min 999 (h + 1)) := by
      unfold tk
      exact if_neg (fun z => z.1 ht)
    rw [e3]
    exact p1
  · have hne : ¬ t = -1 := by rw [ht]; exact nI_m1 (by have := T.2.1; omega)
    obtain ⟨M', e4, f4⟩ := (T1.2.2.2 _ c t (min 999 (h + 1)) (m + 1) xTw.r p1 ⟨hc, Or.inr ⟨k, hk, ht⟩, Nat.min_le_left _ _, by omega⟩).2.2 hne
    have p2 := f4.pm p1
    have st : fX1_goOn n0 M = fX1_goOn_106 n0 (bI (gF c t (min 999 (h + 1)) (m + 1) = true)) M' := start _ (by
      rw [ht]
      refine eq_b (xThT T1.2.2.1 T.2.1 hk) (eq_f (show ¬ (1 : Int32) = 0 by decide) ?_)
      rw [← ht]
      exact e4)
    unfold fX1_goOn_106 at st
    by_cases g : gF c t (min 999 (h + 1)) (m + 1) = true
    · refine ⟨sI (sI M' 898 (-1)) 899 0, st.trans (eq_f (by rw [bI_t g]; decide) rfl), ?_, ((fM.tr f4.x).i (by omega)).i (by omega)⟩
      have e3 : tk gF c (m + 1) (t, h) = (-1, 0) := by
        unfold tk
        exact if_pos ⟨hne, g⟩
      rw [e3]
      exact ⟨p2.1, p2.2.1, rfl, rfl, p2.2.2.2.2⟩
    · refine ⟨M', st.trans (eq_t (bI_f g) rfl), ?_, fM.tr f4.x⟩
      have e3 : tk gF c (m + 1) (t, h) = (t, min 999 (h + 1)) := by
        unfold tk
        exact if_neg (fun z => g z.2)
      rw [e3]
      exact p2
abbrev fcL (n0 q1 : Nat) : Nat → Int32 → Int32 → Mem → Option (Int32 × Mem) := loopN (bX1_foresee_23 n0 q1) (fun _ _ _ => none)
theorem xfl {n0 q nt c m last q1 : Nat} {p : Int32 × Nat} {hF : HF} {gF : GF} (hc : c < 5) (hp : pOk nt p) (hl : m + last ≤ 9999) (h60 : last ≤ 60) (hq1 : q1 = 26 ∨ q1 = 27) :
    ∀ w k M, k ≤ last + 1 → last + 1 < w + k → XTn n0 q nt hF gF M → PmX q c (tr gF c m p (k - 1)).1 (tr gF c m p (k - 1)).2 (m + (k - 1)) M → (∀ j, j < k → gA M q1 j = nI (hrs hF gF c m p j)) →
    ∃ M', fcL n0 q1 w (nI last) (nI k) M = some (nI last, M') ∧ (∀ j, j ≤ last → gA M' q1 j = nI (hrs hF gF c m p j)) ∧ XF (fun a => a = q1) M M'
  | 0, k, M, hk, hw, _, _, _ => by omega
  | w + 1, k, M, hk, hw, T, hP, hA => by
    show ∃ M', bX1_foresee_23 n0 q1 (fcL n0 q1 w) (nI last) (nI k) M = _ ∧ _
    by_cases g : k = last + 1
    · exact ⟨M, by unfold bX1_foresee_23; exact eq_t (nI_lt (by omega) (by omega)) rfl, fun j hj => hA j (by omega), XF.r⟩
    · have ln : LX.ln q1 = 61 := by rcases hq1 with rfl | rfl <;> rfl
      -- behind the minute
      have mid : ∃ M1, (∀ r, fX1_foresee_38 n0 q1 (fcL n0 q1 w) (nI last) (nI k) M1 = r → bX1_foresee_23 n0 q1 (fcL n0 q1 w) (nI last) (nI k) M = r) ∧ PmX q c (tr gF c m p k).1 (tr gF c m p k).2 (m + k) M1 ∧ XF noN M M1 := by
        by_cases g0 : k = 0
        · subst g0
          exact ⟨M, fun r hr => by unfold bX1_foresee_23; exact eq_f (fun z => by have := (nI_ltI (a := last) (b := 0) (by omega) (by omega)).mp z; omega) (eq_t (by decide) hr), hP, XF.r⟩
        · obtain ⟨j, rfl⟩ : ∃ j, k = j + 1 := ⟨k - 1, by omega⟩
          have ok := tr_ok (gF := gF) (c := c) (m := m) hp j
          rw [Nat.add_sub_cancel] at hP
          obtain ⟨M1, e1, e2, e3⟩ := xgo T hP ⟨hc, ok.1, ok.2, by omega⟩ (by omega)
          exact ⟨M1, fun r hr => by unfold bX1_foresee_23; exact eq_f (fun z => by have := (nI_ltI (a := last) (b := j + 1) (by omega) (by omega)).mp z; omega) (eq_f (nI_ge (a := 0) (by omega) (by omega)) (eq_b e1 hr)), e2, e3⟩
      obtain ⟨M1, e1, e2, e3⟩ := mid
      have ok := tr_ok (gF := gF) (c := c) (m := m) hp k
      obtain ⟨_, M2, b1, b2, b3⟩ := xhr (T.xf e3 (fun _ z => z.elim)) e2 ⟨hc, ok.1, ok.2, by omega⟩
      have f3 : XF (fun a => a = q1) M (sA M2 q1 k (nI (hrs hF gF c m p k))) := ((e3.tr b3).n).a rfl
      obtain ⟨M', d1, d2, d3⟩ := xfl hc hp hl h60 hq1 w (k + 1) (sA M2 q1 k (nI (hrs hF gF c m p k))) (by omega) (by omega) (T.xf f3 (fun a z => by omega)) (by rw [Nat.add_sub_cancel]; exact b2) (fun j hj => by
        rw [gA_sA, if_pos rfl]
        by_cases h : j = k
        · rw [if_pos h, h]
        · rw [if_neg h, (e3.tr b3).2.2.2.1 q1 (fun z => by rcases z with z | z | z; omega; omega; exact z)]
          exact hA j (by omega))
      refine ⟨M', e1 _ ?_, d2, f3.tr d3⟩
      unfold fX1_foresee_38
      refine eq_b b1 (eq_f (by rw [ln]; exact nI_in (by omega) (by decide)) (eq_e (v' := sA M2 q1 k (nI (hrs hF gF c m p k))) ?_ ?_))
      · show sA M2 q1 (nI k).toNatClampNeg _ = _
        rw [nI_clamp (by omega)]
        rfl
      · rw [show nI k + 1 = nI (k + 1) from nI_add k 1]
        exact d1
theorem xfor {n0 q nt c m most q1 : Nat} {t : Int32} {h : Nat} {hF : HF} {gF : GF} {M : Mem} (hn : 1700 ≤ n0) (T : XTn n0 q nt hF gF M) (hX : PmX q c t h m M) (hc : c < 5) (hp : pOk nt (t, h)) (hm : m ≤ 9999) (h60 : most ≤ 60) (hq1 : q1 = 26 ∨ q1 = 27) :
    ∃ M', fX1_foresee n0 q1 (nI most) M = some (nI (min most (9999 - m)), M') ∧ (∀ j, j ≤ min most (9999 - m) → gA M' q1 j = nI (hrs hF gF c m (t, h) j)) ∧ XF (fun a => a = q1) M M' := by
  have ln : LX.ln q1 = 61 := by rcases hq1 with rfl | rfl <;> rfl
  obtain ⟨M', e1, e2, e3⟩ := xfl (n0 := n0) (hF := hF) (gF := gF) (p := (t, h)) (m := m) (last := min most (9999 - m)) hc hp (by omega) (by omega) hq1 n0 0 M (by omega) (by omega) T hX (fun j hj => by omega)
  refine ⟨M', ?_, e2, e3⟩
  unfold fX1_foresee
  refine eq_e (v' := nI (min most (9999 - m))) ?_ e1
  rw [ln, hX.2.2.2.2, show (9999 : Int32) - nI m = nI (9999 - m) from nI_subN hm, show (Int32.ofNat 61) - (1 : Int32) = nI 60 from rfl, imin_nI (by omega) (by omega), imin_nI (by omega) (by omega), Nat.min_eq_left h60]
