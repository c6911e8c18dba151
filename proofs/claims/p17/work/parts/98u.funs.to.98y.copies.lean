section
/-! HOURS AND ENDS AS FUNCTIONS OF CORNER, THING, HELD, MINUTE -/
def xTw (q : Nat) (M M' : Mem) : Prop := (∀ j, 128 * q ≤ j → j < 128 * q + 2048 → gI M' j = gI M j) ∧ ∀ a, q ≤ a → a < q + 16 → gA M' a = gA M a
def yTw (b : Nat) (M M' : Mem) : Prop := (∀ a i, a ≤ 17 → regA b a i → gA M' a i = gA M a i) ∧ ∀ a i, regB b a i → gB M' a i = gB M a i
theorem xTw.r {q : Nat} {M : Mem} : xTw q M M := ⟨fun _ _ _ => rfl, fun _ _ _ => rfl⟩
theorem yTw.r {b : Nat} {M : Mem} : yTw b M M := ⟨fun _ _ _ _ => rfl, fun _ _ _ => rfl⟩
theorem xTw.tr {q : Nat} {M M' M2 : Mem} (h : xTw q M M') (g : xTw q M' M2) : xTw q M M2 := ⟨fun j a b => (g.1 j a b).trans (h.1 j a b), fun j a b => (g.2 j a b).trans (h.2 j a b)⟩
theorem yTw.tr {b : Nat} {M M' M2 : Mem} (h : yTw b M M') (g : yTw b M' M2) : yTw b M M2 := ⟨fun j i a z => (g.1 j i a z).trans (h.1 j i a z), fun j i z => (g.2 j i z).trans (h.2 j i z)⟩
theorem yTw.all {b : Nat} {M M' : Mem} (h1 : ∀ a, 2 ≤ a → a ≤ 17 → gA M' a = gA M a) (h2 : ∀ a, 18 ≤ a → a ≤ 20 → gB M' a = gB M a) : yTw b M M' := ⟨fun a i z y => by rw [h1 a (by unfold regA at y; omega) z], fun a i y => by rw [h2 a (by unfold regB at y; omega) (by unfold regB at y; omega)]⟩
theorem TownR.tw {q b nt nc nd nr C : Nat} {MX MY MX' MY' : Mem} (h : TownR q b nt nc nd nr C MX MY) (hx : xTw q MX MX') (hy : yTw b MY MY') : TownR q b nt nc nd nr C MX' MY' :=
  h.cong (fun j a b => hx.1 j (by omega) b) (fun a h1 h2 => hx.2 a h1 h2) (fun a i h1 h2 => hy.1 a i (by unfold regA at h2; omega) h2) (fun a i h2 => hy.2 a i h2)
abbrev HF : Type := Nat → Int32 → Nat → Nat → Nat
abbrev GF : Type := Nat → Int32 → Nat → Nat → Bool
def FnX (n0 q nt : Nat) (hF : HF) (gF : GF) (M0 : Mem) : Prop := ∀ M c t h m, xTw q M0 M → PmX q c t h m M → PmO nt c t h m → hF c t h m ≤ 23 ∧ (∃ M', fX1_hourNow n0 M = some (nI (hF c t h m), M') ∧ VX2 M M') ∧ (¬ t = -1 → ∃ M', xTst n0 M = fX1_goOn_106 n0 (bI (gF c t h m = true)) M' ∧ VX2 M M')
def FnY (n0 b nt : Nat) (hF : HF) (gF : GF) (M0 : Mem) : Prop := ∀ M v c t h m, yTw b M0 M → PmY b v c t h m M → PmO nt c t h m → hF c t h m ≤ 23 ∧ (∃ M', fX12_hour n0 (nI v) (nI c) M = some (nI (hF c t h m), M') ∧ VY2 M M') ∧ (¬ t = -1 → ∃ M', fX12_isGone n0 (nI v) (nI c) M = some (bI (gF c t h m = true), M') ∧ VY2 M M')
theorem bIb {g g0 : Bool} (h : bI (g = true) = bI (g0 = true)) : g = g0 := by
  cases g <;> cases g0 <;> first | rfl | exact absurd h (by decide)
theorem townF1 {n0 q b nt nc nd nr C : Nat} {MX MY : Mem} (hn : 1700 ≤ n0) (hT : TownR q b nt nc nd nr C MX MY) (hq : q = 31 ∨ q = 47) (hb : b ≤ 1) (c : Nat) (t : Int32) (h m : Nat) :
    ∃ r : Nat × Bool, (∀ M, xTw q MX M → PmX q c t h m M → PmO nt c t h m → r.1 ≤ 23 ∧ (∃ M', fX1_hourNow n0 M = some (nI r.1, M') ∧ VX2 M M') ∧ (¬ t = -1 → ∃ M', xTst n0 M = fX1_goOn_106 n0 (bI (r.2 = true)) M' ∧ VX2 M M')) ∧ (∀ M v, yTw b MY M → PmY b v c t h m M → PmO nt c t h m → r.1 ≤ 23 ∧ (∃ M', fX12_hour n0 (nI v) (nI c) M = some (nI r.1, M') ∧ VY2 M M') ∧ (¬ t = -1 → ∃ M', fX12_isGone n0 (nI v) (nI c) M = some (bI (r.2 = true), M') ∧ VY2 M M')) := by
  by_cases hO : PmO nt c t h m
  · have hXc : PmX q c t h m (sI (sI (sI (sI (sR MX 896 q) 897 (nI c)) 898 t) 899 (nI h)) 900 (nI m)) := ⟨rfl, rfl, rfl, rfl, rfl⟩
    have tX : xTw q MX (sI (sI (sI (sI (sR MX 896 q) 897 (nI c)) 898 t) 899 (nI h)) 900 (nI m)) := ⟨fun j a _ => by rw [gI_ne (by omega), gI_ne (by omega), gI_ne (by omega), gI_ne (by omega)]; rfl, fun _ _ _ => rfl⟩
    have hYc : PmY b 0 c t h m (sA (sA (sA (sI MY 13 (nI b)) 28 0 (nI m)) 29 (5 * 0 + c) t) 30 (5 * 0 + c) (nI h)) := ⟨rfl, by decide, rfl, by rw [gA_sA_ne (by decide), gA_sA, if_pos rfl, if_pos rfl], by rw [gA_sA, if_pos rfl, if_pos rfl]⟩
    have tY : yTw b MY (sA (sA (sA (sI MY 13 (nI b)) 28 0 (nI m)) 29 (5 * 0 + c) t) 30 (5 * 0 + c) (nI h)) := ⟨fun a i _ _ => by rw [gA_sA_ne (by omega), gA_sA_ne (by omega), gA_sA_ne (by omega)]; rfl, fun _ _ _ => rfl⟩
    have key : ∀ M N v, xTw q MX M → PmX q c t h m M → yTw b MY N → PmY b v c t h m N → ∃ k M' N', k ≤ 23 ∧ fX1_hourNow n0 M = some (nI k, M') ∧ fX12_hour n0 (nI v) (nI c) N = some (nI k, N') ∧ VX2 M M' ∧ VY2 N N' := fun M N v a1 a2 a3 a4 => hourP hn (hT.tw a1 a3) hq hb a2 a4 hO
    have keg : ¬ t = -1 → ∀ M N v, xTw q MX M → PmX q c t h m M → yTw b MY N → PmY b v c t h m N → ∃ (g : Bool) (M' N' : Mem), xTst n0 M = fX1_goOn_106 n0 (bI (g = true)) M' ∧ fX12_isGone n0 (nI v) (nI c) N = some (bI (g = true), N') ∧ VX2 M M' ∧ VY2 N N' := fun hne M N v a1 a2 a3 a4 => goneP hn (hT.tw a1 a3) hq hb a2 a4 hO hne
    obtain ⟨k, _, _, k1, k2, k3, _, _⟩ := key _ _ 0 tX hXc tY hYc
    have xh : ∀ M, xTw q MX M → PmX q c t h m M → ∃ M', fX1_hourNow n0 M = some (nI k, M') ∧ VX2 M M' := fun M a1 a2 => by
      obtain ⟨k', M', _, l1, l2, l3, l4, _⟩ := key M _ 0 a1 a2 tY hYc
      have e := Option.some.inj (k3.symm.trans l3)
      have e1 : k = k' := (nI_eq (by omega) (by omega)).mp (Prod.mk.inj e).1
      subst e1
      exact ⟨M', l2, l4⟩
    have yh : ∀ N v, yTw b MY N → PmY b v c t h m N → ∃ N', fX12_hour n0 (nI v) (nI c) N = some (nI k, N') ∧ VY2 N N' := fun N v a1 a2 => by
      obtain ⟨k', _, N', l1, l2, l3, _, l5⟩ := key _ N v tX hXc a1 a2
      have e := Option.some.inj (k2.symm.trans l2)
      have e1 : k = k' := (nI_eq (by omega) (by omega)).mp (Prod.mk.inj e).1
      subst e1
      exact ⟨N', l3, l5⟩
    by_cases hne : t = -1
    · exact ⟨(k, false), fun M a1 a2 _ => ⟨k1, xh M a1 a2, fun z => absurd hne z⟩, fun M v a1 a2 _ => ⟨k1, yh M v a1 a2, fun z => absurd hne z⟩⟩
    · obtain ⟨g, M1, N1, g1, g2, g3, g4⟩ := keg hne _ _ 0 tX hXc tY hYc
      have yg : ∀ N v, yTw b MY N → PmY b v c t h m N → ∃ (g' : Bool) (M' N' : Mem), xTst n0 (sI (sI (sI (sI (sR MX 896 q) 897 (nI c)) 898 t) 899 (nI h)) 900 (nI m)) = fX1_goOn_106 n0 (bI (g' = true)) M' ∧ fX12_isGone n0 (nI v) (nI c) N = some (bI (g' = true), N') ∧ VX2 (sI (sI (sI (sI (sR MX 896 q) 897 (nI c)) 898 t) 899 (nI h)) 900 (nI m)) M' ∧ VY2 N N' := fun N v a1 a2 => by
        obtain ⟨g', M', N', l1, l2, l3, l4⟩ := keg hne _ N v tX hXc a1 a2
        exact ⟨g', M', N', l1, l2, l3, l4⟩
      have go106 : ∀ (u : Bool) (M : Mem), PmX q c t h m M → ∃ M', fX1_goOn_106 n0 (bI (u = true)) M = some M' ∧ gI M' 898 = if u = true then -1 else t := fun u M a => by
        cases u
        · exact ⟨M, by unfold fX1_goOn_106; exact eq_t (bI_f (by decide)) rfl, a.2.2.1⟩
        · exact ⟨sI (sI M 898 (-1)) 899 0, by unfold fX1_goOn_106; exact eq_f (by rw [bI_t rfl]; decide) rfl, rfl⟩
      refine ⟨(k, g), fun M a1 a2 _ => ⟨k1, xh M a1 a2, fun _ => ?_⟩, fun M v a1 a2 _ => ⟨k1, yh M v a1 a2, fun _ => ?_⟩⟩
      · obtain ⟨g', M', _, l1, l2, l3, _⟩ := keg hne M _ 0 a1 a2 tY hYc
        have e : g = g' := bIb (Prod.mk.inj (Option.some.inj (g2.symm.trans l2))).1
        subst e
        exact ⟨M', l1, l3⟩
      · obtain ⟨g', M', N', l1, l2, l3, l4⟩ := yg M v a1 a2
        have p1 : ∀ M', VX2 (sI (sI (sI (sI (sR MX 896 q) 897 (nI c)) 898 t) 899 (nI h)) 900 (nI m)) M' → PmX q c t h m M' := fun M' z => ⟨by rw [z.1]; rfl, (z.2.2.2.2 897 (by decide)).trans rfl, (z.2.2.2.2 898 (by decide)).trans rfl, (z.2.2.2.2 899 (by decide)).trans rfl, (z.2.2.2.2 900 (by decide)).trans rfl⟩
        obtain ⟨W1, w1, w2⟩ := go106 g M1 (p1 _ g3)
        obtain ⟨W2, w3, w4⟩ := go106 g' M' (p1 _ l3)
        have e := Option.some.inj ((w1.symm.trans g1.symm).trans (l1.trans w3))
        rw [← e, w2] at w4
        have e2 : g = g' := by
          cases g <;> cases g' <;> first | rfl | exact absurd w4 hne | exact absurd w4.symm hne
        subst e2
        exact ⟨N', l2, l4⟩
  · exact ⟨(0, false), fun M _ _ a => absurd a hO, fun M v _ _ a => absurd a hO⟩
theorem townF {n0 q b nt nc nd nr C : Nat} {MX MY : Mem} (hn : 1700 ≤ n0) (hT : TownR q b nt nc nd nr C MX MY) (hq : q = 31 ∨ q = 47) (hb : b ≤ 1) : ∃ (hF : HF) (gF : GF), FnX n0 q nt hF gF MX ∧ FnY n0 b nt hF gF MY := by
  have H := townF1 hn hT hq hb
  refine ⟨fun c t h m => (Classical.choose (H c t h m)).1, fun c t h m => (Classical.choose (H c t h m)).2, fun M c t h m a1 a2 a3 => ?_, fun M v c t h m a1 a2 a3 => ?_⟩
  · exact (Classical.choose_spec (H c t h m)).1 M a1 a2 a3
  · exact (Classical.choose_spec (H c t h m)).2 M v a1 a2 a3
theorem FnX.tw {n0 q nt : Nat} {hF : HF} {gF : GF} {M M' : Mem} (h : FnX n0 q nt hF gF M) (t : xTw q M M') : FnX n0 q nt hF gF M' := fun N c u x m a1 a2 a3 => h N c u x m (t.tr a1) a2 a3
theorem FnY.tw {n0 b nt : Nat} {hF : HF} {gF : GF} {M M' : Mem} (h : FnY n0 b nt hF gF M) (t : yTw b M M') : FnY n0 b nt hF gF M' := fun N v c u x m a1 a2 a3 => h N v c u x m (t.tr a1) a2 a3
end
section
/-! ONE PALM AS IT GOES ON, BY THE CLASS -/
def tk (gF : GF) (c m : Nat) (p : Int32 × Nat) : Int32 × Nat := if ¬ p.1 = -1 ∧ gF c p.1 (min 999 (p.2 + 1)) m = true then (-1, 0) else (p.1, min 999 (p.2 + 1))
def tr (gF : GF) (c m : Nat) (p : Int32 × Nat) : Nat → Int32 × Nat
  | 0 => p
  | k + 1 => tk gF c (m + k + 1) (tr gF c m p k)
def pOk (nt : Nat) (p : Int32 × Nat) : Prop := tOk nt p.1 ∧ p.2 ≤ 999
theorem tk_ok {nt c m : Nat} {gF : GF} {p : Int32 × Nat} (h : pOk nt p) : pOk nt (tk gF c m p) := by
  unfold tk pOk
  by_cases g : ¬ p.1 = -1 ∧ gF c p.1 (min 999 (p.2 + 1)) m = true
  · rw [if_pos g]; exact ⟨Or.inl rfl, Nat.zero_le _⟩
  · rw [if_neg g]; exact ⟨h.1, Nat.min_le_left _ _⟩
theorem tr_ok {nt c m : Nat} {gF : GF} {p : Int32 × Nat} (h : pOk nt p) : ∀ k, pOk nt (tr gF c m p k)
  | 0 => h
  | k + 1 => tk_ok (tr_ok h k)
/-- the hours of a palm: now, and k minutes on -/
def hrs (hF : HF) (gF : GF) (c m : Nat) (p : Int32 × Nat) (k : Nat) : Nat := hF c (tr gF c m p k).1 (tr gF c m p k).2 (m + k)
/-- what the class may change beside the arrays A while palms go on -/
def XF (A : Nat → Prop) (M M' : Mem) : Prop := gR M' = gR M ∧ gL M' = gL M ∧ gB M' = gB M ∧ (∀ a, ¬ (a = 8 ∨ a = 9 ∨ A a) → gA M' a = gA M a) ∧ ∀ k, ¬ ((897 ≤ k ∧ k ≤ 900) ∨ k = 903) → gI M' k = gI M k
theorem XF.r {A : Nat → Prop} {M : Mem} : XF A M M := ⟨rfl, rfl, rfl, fun _ _ => rfl, fun _ _ => rfl⟩
theorem XF.tr {A : Nat → Prop} {M M' M2 : Mem} (h : XF A M M') (g : XF A M' M2) : XF A M M2 := ⟨g.1.trans h.1, g.2.1.trans h.2.1, g.2.2.1.trans h.2.2.1, fun a z => (g.2.2.2.1 a z).trans (h.2.2.2.1 a z), fun a z => (g.2.2.2.2 a z).trans (h.2.2.2.2 a z)⟩
theorem XF.wk {A A' : Nat → Prop} {M M' : Mem} (h : XF A M M') (g : ∀ a, A a → A' a) : XF A' M M' := ⟨h.1, h.2.1, h.2.2.1, fun a z => h.2.2.2.1 a (fun e => z (by rcases e with e | e | e; exact Or.inl e; exact Or.inr (Or.inl e); exact Or.inr (Or.inr (g a e)))), h.2.2.2.2⟩
theorem XF.n {A : Nat → Prop} {M M' : Mem} (h : XF noN M M') : XF A M M' := h.wk (fun _ z => z.elim)
theorem XF.i {A : Nat → Prop} {M M' : Mem} {k : Nat} {v : Int32} (h : XF A M M') (hk : (897 ≤ k ∧ k ≤ 900) ∨ k = 903) : XF A M (sI M' k v) := ⟨h.1, h.2.1, h.2.2.1, h.2.2.2.1, fun j z => by rw [gI_ne (fun e => z (by rw [e]; exact hk))]; exact h.2.2.2.2 j z⟩
theorem XF.a {A : Nat → Prop} {M M' : Mem} {a i : Nat} {v : Int32} (h : XF A M M') (hk : A a) : XF A M (sA M' a i v) := ⟨h.1, h.2.1, h.2.2.1, fun j z => by rw [gA_sA_ne (fun e => z (by rw [e]; exact Or.inr (Or.inr hk)))]; exact h.2.2.2.1 j z, h.2.2.2.2⟩
theorem VX2.x {A : Nat → Prop} {M M' : Mem} (h : VX2 M M') : XF A M M' := ⟨h.1, h.2.1, h.2.2.1, fun a z => h.2.2.2.1 a (fun e => z (by omega)), fun k z => h.2.2.2.2 k (fun e => z (Or.inr e))⟩
theorem XF.tw {A : Nat → Prop} {M M' : Mem} {q : Nat} (h : XF A M M') (hq : q = 31 ∨ q = 47) (hA : ∀ a, A a → a < 31 ∨ 63 ≤ a) : xTw q M M' := ⟨fun j _ _ => h.2.2.2.2 j (by omega), fun a h1 h2 => h.2.2.2.1 a (fun e => by
  rcases e with e | e | e
  · omega
  · omega
  · have := hA a e; omega)⟩
theorem VX2.pm {M M' : Mem} {q c h m : Nat} {t : Int32} (f : VX2 M M') (hX : PmX q c t h m M) : PmX q c t h m M' := ⟨by rw [f.1]; exact hX.1, (f.2.2.2.2 897 (by decide)).trans hX.2.1, (f.2.2.2.2 898 (by decide)).trans hX.2.2.1, (f.2.2.2.2 899 (by decide)).trans hX.2.2.2.1, (f.2.2.2.2 900 (by decide)).trans hX.2.2.2.2⟩
def hld (M : Mem) (x1 x2 x3 x4 : Int32) : Mem := sI (sI (sI (sI M 897 x1) 898 x2) 899 x3) 900 x4
theorem xhold {n0 : Nat} {x1 x2 x3 x4 : Int32} {M : Mem} : fX1_hold n0 x1 x2 x3 x4 M = some (hld M x1 x2 x3 x4) := rfl
theorem hld_f {A : Nat → Prop} {x1 x2 x3 x4 : Int32} {M : Mem} : XF A M (hld M x1 x2 x3 x4) := by
  unfold hld
  exact (((XF.r.i (by omega)).i (by omega)).i (by omega)).i (by omega)
theorem hld_p {q c h m : Nat} {t : Int32} {M : Mem} (hR : gR M 896 = q) : PmX q c t h m (hld M (nI c) t (nI h) (nI m)) := ⟨hR, rfl, rfl, rfl, rfl⟩
theorem imin_nI {a b : Nat} (ha : a < 2 ^ 31) (hb : b < 2 ^ 31) : imin (nI a) (nI b) = nI (min a b) := by
  unfold imin
  by_cases g : b < a
  · rw [if_pos (nI_lt g ha), Nat.min_eq_right (Nat.le_of_lt g)]
  · rw [if_neg (fun z => g ((nI_ltI hb ha).mp z)), Nat.min_eq_left (by omega)]
theorem imax_nI {a b : Nat} (ha : a < 2 ^ 31) (hb : b < 2 ^ 31) : imax (nI a) (nI b) = nI (max a b) := by
  unfold imax
  by_cases g : a < b
  · rw [if_pos (nI_lt g hb), Nat.max_eq_right (Nat.le_of_lt g)]
  · rw [if_neg (fun z => g ((nI_ltI ha hb).mp z)), Nat.max_eq_left (by omega)]
theorem xThN {n0 q : Nat} {M : Mem} : fX9_isThing n0 q (-1) M = some (0, M) := by
  unfold fX9_isThing
  exact eq_t (by decide) rfl
theorem nI_nn {k : Nat} (h : k < 2 ^ 31) : ¬ nI k < 0 := fun z => absurd (show oob (nI k) (k + 1) from Or.inl z) (by
  by_cases g : k + 1 < 2 ^ 31
  · exact nI_in (by omega) g
  · exact fun e => by
      have := (nI_ltI (a := k) (b := 0) h (by decide)).mp z
      omega)
theorem xThT {n0 q nt k : Nat} {M : Mem} (hN : gI M (128 * q + 1) = nI nt) (hnt : nt ≤ 6) (hk : k < nt) : fX9_isThing n0 q (nI k) M = some (1, M) := by
  unfold fX9_isThing
  rw [hN]
  exact eq_f (nI_nn (by omega)) (eq_f (nI_ge hk (by omega)) rfl)
/-- a town of the class, with its functions -/
def XTn (n0 q nt : Nat) (hF : HF) (gF : GF) (M0 : Mem) : Prop := (q = 31 ∨ q = 47) ∧ nt ≤ 6 ∧ gI M0 (128 * q + 1) = nI nt ∧ FnX n0 q nt hF gF M0
theorem XTn.tw {n0 q nt : Nat} {hF : HF} {gF : GF} {M M' : Mem} (h : XTn n0 q nt hF gF M) (t : xTw q M M') : XTn n0 q nt hF gF M' := ⟨h.1, h.2.1, (t.1 _ (by omega) (by omega)).trans h.2.2.1, h.2.2.2.tw t⟩
theorem XTn.xf {n0 q nt : Nat} {hF : HF} {gF : GF} {A : Nat → Prop} {M M' : Mem} (h : XTn n0 q nt hF gF M) (t : XF A M M') (hA : ∀ a, A a → a < 31 ∨ 63 ≤ a) : XTn n0 q nt hF gF M' := h.tw (t.tw h.1 hA)
theorem xhr {n0 q nt c h m : Nat} {t : Int32} {hF : HF} {gF : GF} {M : Mem} (T : XTn n0 q nt hF gF M) (hX : PmX q c t h m M) (hO : PmO nt c t h m) : hF c t h m ≤ 23 ∧ ∃ M', fX1_hourNow n0 M = some (nI (hF c t h m), M') ∧ PmX q c t h m M' ∧ XF noN M M' := by
  obtain ⟨h1, ⟨M', e, f⟩, _⟩ := T.2.2.2 M c t h m xTw.r hX hO
  exact ⟨h1, M', e, f.pm hX, f.x⟩
theorem xgo {n0 q nt c h m : Nat} {t : Int32} {hF : HF} {gF : GF} {M : Mem} (T : XTn n0 q nt hF gF M) (hX : PmX q c t h m M) (hO : PmO nt c t h m) (hm : m < 9999) :
    ∃ M', fX1_goOn n0 M = some M' ∧ PmX q c (tk gF c (m + 1) (t, h)).1 (tk gF c (m + 1) (t, h)).2 (m + 1) M' ∧ XF noN M M' := by
  obtain ⟨x0, x1, x2, x3, x4⟩ := hX
  obtain ⟨hc, ht, hh, hm2⟩ := hO
  have e1 : imin 9999 (gI M 900 + 1) = nI (m + 1) := by
    rw [x4, show nI m + 1 = nI (m + 1) from nI_add m 1, show (9999 : Int32) = nI 9999 from rfl, imin_nI (by omega) (by omega), Nat.min_eq_right (by omega)]
  have e2 : imin 999 (gI (sI M 900 (nI (m + 1))) 899 + 1) = nI (min 999 (h + 1)) := by
    rw [gI_ne (by decide), x3, show nI h + 1 = nI (h + 1) from nI_add h 1, show (999 : Int32) = nI 999 from rfl, imin_nI (by omega) (by omega)]
  have fM : XF noN M (sI (sI M 900 (nI (m + 1))) 899 (nI (min 999 (h + 1)))) := (XF.r.i (by omega)).i (by omega)
  have p1 : PmX q c t (min 999 (h + 1)) (m + 1) (sI (sI M 900 (nI (m + 1))) 899 (nI (min 999 (h + 1)))) := ⟨x0, x1, x2, rfl, rfl⟩
  have T1 := T.xf fM (fun _ z => z.elim)
  have start : ∀ r, Option.bind (fX9_isThing n0 q t (sI (sI M 900 (nI (m + 1))) 899 (nI (min 999 (h + 1))))) (fun z40 => if z40.1 = 0 then some z40.2 else xTst n0 z40.2) = r → fX1_goOn n0 M = r := fun r hr => by
    unfold fX1_goOn
    refine eq_e (v' := sI M 900 (nI (m + 1))) (by rw [e1]) (eq_e (v' := sI (sI M 900 (nI (m + 1))) 899 (nI (min 999 (h + 1)))) (by rw [e2]) ?_)
    rw [p1.1, p1.2.2.1]
    exact hr
  rcases ht with ht | ⟨k, hk, ht⟩
  · refine ⟨_, start _ (by rw [ht]; exact eq_b xThN (eq_t rfl rfl)), ?_, fM⟩
    have e3 : tk gF c (m + 1) (t, h) = (t, min 999 (h + 1)) := by
      unfold tk
      exact if_neg (fun z => z.1 ht)
    rw [e3]
    exact p1
  · have hne : ¬ t = -1 := by rw [ht]; exact nI_m1 (by have := T.2.1; omega)
    obtain ⟨M', e4, f4⟩ := (T1.2.2.2 _ c t (min 999 (h + 1)) (m + 1) xTw.r p1 ⟨hc, Or.inr ⟨k, hk, ht⟩, Nat.min_le_left _ _, by omega⟩).2.2 hne
    have p2 := f4.pm p1
    have st : fX1_goOn n0 M = fX1_goOn_106 n0 (bI (gF c t (min 999 (h + 1)) (m + 1) = true)) M' := start _ (by
      rw [ht]
      refine eq_b (xThT T1.2.2.1 T.2.1 hk) (eq_f (show ¬ (1 : Int32) = 0 by decide) ?_)
      rw [← ht]
      exact e4)
    unfold fX1_goOn_106 at st
    by_cases g : gF c t (min 999 (h + 1)) (m + 1) = true
    · refine ⟨sI (sI M' 898 (-1)) 899 0, st.trans (eq_f (by rw [bI_t g]; decide) rfl), ?_, ((fM.tr f4.x).i (by omega)).i (by omega)⟩
      have e3 : tk gF c (m + 1) (t, h) = (-1, 0) := by
        unfold tk
        exact if_pos ⟨hne, g⟩
      rw [e3]
      exact ⟨p2.1, p2.2.1, rfl, rfl, p2.2.2.2.2⟩
    · refine ⟨M', st.trans (eq_t (bI_f g) rfl), ?_, fM.tr f4.x⟩
      have e3 : tk gF c (m + 1) (t, h) = (t, min 999 (h + 1)) := by
        unfold tk
        exact if_neg (fun z => g z.2)
      rw [e3]
      exact p2
abbrev fcL (n0 q1 : Nat) : Nat → Int32 → Int32 → Mem → Option (Int32 × Mem) := loopN (bX1_foresee_23 n0 q1) (fun _ _ _ => none)
theorem xfl {n0 q nt c m last q1 : Nat} {p : Int32 × Nat} {hF : HF} {gF : GF} (hc : c < 5) (hp : pOk nt p) (hl : m + last ≤ 9999) (h60 : last ≤ 60) (hq1 : q1 = 26 ∨ q1 = 27) :
    ∀ w k M, k ≤ last + 1 → last + 1 < w + k → XTn n0 q nt hF gF M → PmX q c (tr gF c m p (k - 1)).1 (tr gF c m p (k - 1)).2 (m + (k - 1)) M → (∀ j, j < k → gA M q1 j = nI (hrs hF gF c m p j)) →
    ∃ M', fcL n0 q1 w (nI last) (nI k) M = some (nI last, M') ∧ (∀ j, j ≤ last → gA M' q1 j = nI (hrs hF gF c m p j)) ∧ XF (fun a => a = q1) M M'
  | 0, k, M, hk, hw, _, _, _ => by omega
  | w + 1, k, M, hk, hw, T, hP, hA => by
    show ∃ M', bX1_foresee_23 n0 q1 (fcL n0 q1 w) (nI last) (nI k) M = _ ∧ _
    by_cases g : k = last + 1
    · exact ⟨M, by unfold bX1_foresee_23; exact eq_t (nI_lt (by omega) (by omega)) rfl, fun j hj => hA j (by omega), XF.r⟩
    · have ln : LX.ln q1 = 61 := by rcases hq1 with rfl | rfl <;> rfl
      -- behind the minute
      have mid : ∃ M1, (∀ r, fX1_foresee_38 n0 q1 (fcL n0 q1 w) (nI last) (nI k) M1 = r → bX1_foresee_23 n0 q1 (fcL n0 q1 w) (nI last) (nI k) M = r) ∧ PmX q c (tr gF c m p k).1 (tr gF c m p k).2 (m + k) M1 ∧ XF noN M M1 := by
        by_cases g0 : k = 0
        · subst g0
          exact ⟨M, fun r hr => by unfold bX1_foresee_23; exact eq_f (fun z => by have := (nI_ltI (a := last) (b := 0) (by omega) (by omega)).mp z; omega) (eq_t (by decide) hr), hP, XF.r⟩
        · obtain ⟨j, rfl⟩ : ∃ j, k = j + 1 := ⟨k - 1, by omega⟩
          have ok := tr_ok (gF := gF) (c := c) (m := m) hp j
          rw [Nat.add_sub_cancel] at hP
          obtain ⟨M1, e1, e2, e3⟩ := xgo T hP ⟨hc, ok.1, ok.2, by omega⟩ (by omega)
          exact ⟨M1, fun r hr => by unfold bX1_foresee_23; exact eq_f (fun z => by have := (nI_ltI (a := last) (b := j + 1) (by omega) (by omega)).mp z; omega) (eq_f (nI_ge (a := 0) (by omega) (by omega)) (eq_b e1 hr)), e2, e3⟩
      obtain ⟨M1, e1, e2, e3⟩ := mid
      have ok := tr_ok (gF := gF) (c := c) (m := m) hp k
      obtain ⟨_, M2, b1, b2, b3⟩ := xhr (T.xf e3 (fun _ z => z.elim)) e2 ⟨hc, ok.1, ok.2, by omega⟩
      have f3 : XF (fun a => a = q1) M (sA M2 q1 k (nI (hrs hF gF c m p k))) := ((e3.tr b3).n).a rfl
      obtain ⟨M', d1, d2, d3⟩ := xfl hc hp hl h60 hq1 w (k + 1) (sA M2 q1 k (nI (hrs hF gF c m p k))) (by omega) (by omega) (T.xf f3 (fun a z => by omega)) (by rw [Nat.add_sub_cancel]; exact b2) (fun j hj => by
        rw [gA_sA, if_pos rfl]
        by_cases h : j = k
        · rw [if_pos h, h]
        · rw [if_neg h, (e3.tr b3).2.2.2.1 q1 (fun z => by rcases z with z | z | z; omega; omega; exact z)]
          exact hA j (by omega))
      refine ⟨M', e1 _ ?_, d2, f3.tr d3⟩
      unfold fX1_foresee_38
      refine eq_b b1 (eq_f (by rw [ln]; exact nI_in (by omega) (by decide)) (eq_e (v' := sA M2 q1 k (nI (hrs hF gF c m p k))) ?_ ?_))
      · show sA M2 q1 (nI k).toNatClampNeg _ = _
        rw [nI_clamp (by omega)]
        rfl
      · rw [show nI k + 1 = nI (k + 1) from nI_add k 1]
        exact d1
theorem xfor {n0 q nt c m most q1 : Nat} {t : Int32} {h : Nat} {hF : HF} {gF : GF} {M : Mem} (hn : 1700 ≤ n0) (T : XTn n0 q nt hF gF M) (hX : PmX q c t h m M) (hc : c < 5) (hp : pOk nt (t, h)) (hm : m ≤ 9999) (h60 : most ≤ 60) (hq1 : q1 = 26 ∨ q1 = 27) :
    ∃ M', fX1_foresee n0 q1 (nI most) M = some (nI (min most (9999 - m)), M') ∧ (∀ j, j ≤ min most (9999 - m) → gA M' q1 j = nI (hrs hF gF c m (t, h) j)) ∧ XF (fun a => a = q1) M M' := by
  have ln : LX.ln q1 = 61 := by rcases hq1 with rfl | rfl <;> rfl
  obtain ⟨M', e1, e2, e3⟩ := xfl (n0 := n0) (hF := hF) (gF := gF) (p := (t, h)) (m := m) (last := min most (9999 - m)) hc hp (by omega) (by omega) hq1 n0 0 M (by omega) (by omega) T hX (fun j hj => by omega)
  refine ⟨M', ?_, e2, e3⟩
  unfold fX1_foresee
  refine eq_e (v' := nI (min most (9999 - m))) ?_ e1
  rw [ln, hX.2.2.2.2, show (9999 : Int32) - nI m = nI (9999 - m) from nI_subN hm, show (Int32.ofNat 61) - (1 : Int32) = nI 60 from rfl, imin_nI (by omega) (by omega), imin_nI (by omega) (by omega), Nat.min_eq_left h60]
end
section
/-! A LAYER OF THE REFERENCE: palms and minute, doings done, what is kept -/
/-- a town's numbers and functions: things, corners, doings, the corner and the hour of a doing, hours, ends -/
def TP : Type := Nat × Nat × Nat × (Nat → Nat) × (Nat → Nat) × HF × GF
def TP.nt (T : TP) : Nat := T.1
def TP.nc (T : TP) : Nat := T.2.1
def TP.nd (T : TP) : Nat := T.2.2.1
def TP.dc (T : TP) : Nat → Nat := T.2.2.2.1
def TP.dh (T : TP) : Nat → Nat := T.2.2.2.2.1
def TP.hF (T : TP) : HF := T.2.2.2.2.2.1
def TP.gF (T : TP) : GF := T.2.2.2.2.2.2
def TP.ok (T : TP) : Prop := T.nt ≤ 6 ∧ T.nc ≤ 5 ∧ T.nd ≤ 6 ∧ ∀ d, d < T.nd → T.dc d < T.nc ∧ T.dh d ≤ 23
def XT (n0 q : Nat) (T : TP) (M : Mem) : Prop := XTn n0 q T.nt T.hF T.gF M ∧ T.ok ∧ gI M (128 * q + 5) = nI T.nc ∧ gI M (128 * q + 12) = nI T.nd ∧ ∀ d, d < T.nd → gA M (q + 10) d = nI (T.dc d) ∧ gA M (q + 11) d = nI (T.dh d)
def YT (n0 b : Nat) (T : TP) (M : Mem) : Prop := FnY n0 b T.nt T.hF T.gF M ∧ T.ok ∧ b ≤ 1 ∧ gI M 13 = nI b ∧ gA M 2 b = nI T.nt ∧ gA M 5 b = nI T.nc ∧ gA M 10 b = nI T.nd ∧ ∀ d, d < T.nd → gA M 11 (6 * b + d) = nI (T.dc d) ∧ gA M 12 (6 * b + d) = nI (T.dh d)
theorem XT.tw {n0 q : Nat} {T : TP} {M M' : Mem} (h : XT n0 q T M) (t : xTw q M M') : XT n0 q T M' := ⟨h.1.tw t, h.2.1, (t.1 _ (by omega) (by omega)).trans h.2.2.1, (t.1 _ (by omega) (by omega)).trans h.2.2.2.1, fun d hd => by
  rw [t.2 _ (by omega) (by omega), t.2 _ (by omega) (by omega)]
  exact h.2.2.2.2 d hd⟩
theorem XT.xf {n0 q : Nat} {T : TP} {A : Nat → Prop} {M M' : Mem} (h : XT n0 q T M) (t : XF A M M') (hA : ∀ a, A a → a < 31 ∨ 63 ≤ a) : XT n0 q T M' := h.tw (t.tw h.1.1 hA)
theorem YT.tw {n0 b : Nat} {T : TP} {M M' : Mem} (h : YT n0 b T M) (t : yTw b M M') (h13 : gI M' 13 = gI M 13) : YT n0 b T M' := ⟨h.1.tw t, h.2.1, h.2.2.1, h13.trans h.2.2.2.1, by rw [t.1 2 b (by omega) (by unfold regA; omega)]; exact h.2.2.2.2.1, by rw [t.1 5 b (by omega) (by unfold regA; omega)]; exact h.2.2.2.2.2.1, by rw [t.1 10 b (by omega) (by unfold regA; omega)]; exact h.2.2.2.2.2.2.1, fun d hd => by
  have h6 := h.2.1.2.2.1
  rw [t.1 11 (6 * b + d) (by omega) (by unfold regA; omega), t.1 12 (6 * b + d) (by omega) (by unfold regA; omega)]
  exact h.2.2.2.2.2.2.2 d hd⟩
/-- what the reference may change beside the cells P while it looks at palms -/
def YF (P : Nat → Nat → Prop) (M M' : Mem) : Prop := gR M' = gR M ∧ gL M' = gL M ∧ gI M' = gI M ∧ (∀ a i, ¬ a = 35 → ¬ P a i → gA M' a i = gA M a i) ∧ ∀ a, ¬ a = 34 → gB M' a = gB M a
def tP (v a i : Nat) : Prop := (a = 28 ∧ i = v) ∨ ((a = 29 ∨ a = 30) ∧ 5 * v ≤ i ∧ i < 5 * v + 5)
def dP (v a i : Nat) : Prop := ((a = 31 ∨ a = 32) ∧ i = v) ∨ (a = 33 ∧ 80 * v ≤ i ∧ i < 80 * v + 80)
def lP (v a i : Nat) : Prop := tP v a i ∨ dP v a i
theorem YF.r {P : Nat → Nat → Prop} {M : Mem} : YF P M M := ⟨rfl, rfl, rfl, fun _ _ _ _ => rfl, fun _ _ => rfl⟩
theorem YF.tr {P : Nat → Nat → Prop} {M M' M2 : Mem} (h : YF P M M') (g : YF P M' M2) : YF P M M2 := ⟨g.1.trans h.1, g.2.1.trans h.2.1, g.2.2.1.trans h.2.2.1, fun a i z y => (g.2.2.2.1 a i z y).trans (h.2.2.2.1 a i z y), fun a z => (g.2.2.2.2 a z).trans (h.2.2.2.2 a z)⟩
theorem YF.wk {P Q : Nat → Nat → Prop} {M M' : Mem} (h : YF P M M') (g : ∀ a i, P a i → Q a i) : YF Q M M' := ⟨h.1, h.2.1, h.2.2.1, fun a i z y => h.2.2.2.1 a i z (fun e => y (g a i e)), h.2.2.2.2⟩
theorem YF.a {P : Nat → Nat → Prop} {M M' : Mem} {a i : Nat} {v : Int32} (h : YF P M M') (hk : P a i) : YF P M (sA M' a i v) := ⟨h.1, h.2.1, h.2.2.1, fun c j z y => by
  rw [gA_sA]
  by_cases e : c = a
  · subst e
    rw [if_pos rfl, if_neg (fun e => y (by rw [e]; exact hk))]
    exact h.2.2.2.1 _ _ z y
  · rw [if_neg e]
    exact h.2.2.2.1 _ _ z y, h.2.2.2.2⟩
theorem VY2.y {P : Nat → Nat → Prop} {M M' : Mem} (h : VY2 M M') : YF P M M' := ⟨h.1, h.2.1, h.2.2.1, fun a i z _ => by rw [h.2.2.2.1 a z], h.2.2.2.2⟩
theorem YF.tw {b : Nat} {P : Nat → Nat → Prop} {M M' : Mem} (h : YF P M M') (hP : ∀ a i, P a i → 28 ≤ a) : yTw b M M' := yTw.all (fun a h1 h2 => by funext i; exact h.2.2.2.1 a i (by omega) (fun z => by have := hP a i z; omega)) (fun a h1 h2 => h.2.2.2.2 a (by omega))
theorem YT.yf {n0 b : Nat} {T : TP} {P : Nat → Nat → Prop} {M M' : Mem} (h : YT n0 b T M) (t : YF P M M') (hP : ∀ a i, P a i → 28 ≤ a) : YT n0 b T M' := h.tw (t.tw hP) (by rw [t.2.2.1])
theorem tP28 {v : Nat} : ∀ a i, tP v a i → 28 ≤ a := fun a i z => by unfold tP at z; omega
theorem dP28 {v : Nat} : ∀ a i, dP v a i → 28 ≤ a := fun a i z => by unfold dP at z; omega
theorem lP28 {v : Nat} : ∀ a i, lP v a i → 28 ≤ a := fun a i z => by unfold lP tP dP at z; omega
/-- minute and palms of a layer -/
def Ly (v nc m : Nat) (pm : Nat → Int32 × Nat) (M : Mem) : Prop := gA M 28 v = nI m ∧ ∀ c, c < nc → gA M 29 (5 * v + c) = (pm c).1 ∧ gA M 30 (5 * v + c) = nI (pm c).2
def PsO (nt nc : Nat) (pm : Nat → Int32 × Nat) : Prop := ∀ c, c < nc → pOk nt (pm c)
theorem Ly.fr {v nc m : Nat} {pm : Nat → Int32 × Nat} {P : Nat → Nat → Prop} {M M' : Mem} (h : Ly v nc m pm M) (f : YF P M M') (hc : nc ≤ 5) (hP : ∀ a i, P a i → ¬ tP v a i) : Ly v nc m pm M' := ⟨(f.2.2.2.1 28 v (by decide) (fun z => hP _ _ z (by unfold tP; omega))).trans h.1, fun c h1 => by
  rw [f.2.2.2.1 29 _ (by decide) (fun z => hP _ _ z (by unfold tP; omega)), f.2.2.2.1 30 _ (by decide) (fun z => hP _ _ z (by unfold tP; omega))]
  exact h.2 c h1⟩
theorem Ly.pm {b v nc m c : Nat} {pm : Nat → Int32 × Nat} {M : Mem} (h : Ly v nc m pm M) (h13 : gI M 13 = nI b) (hv : v < 22) (hc : c < nc) : PmY b v c (pm c).1 (pm c).2 m M := ⟨h13, hv, h.1, (h.2 c hc).1, (h.2 c hc).2⟩
theorem yhr {n0 b v c m : Nat} {T : TP} {pm : Nat → Int32 × Nat} {M : Mem} (hT : YT n0 b T M) (hv : v < 22) (hL : Ly v T.nc m pm M) (hO : PsO T.nt T.nc pm) (hm : m ≤ 20000) (hc : c < T.nc) : T.hF c (pm c).1 (pm c).2 m ≤ 23 ∧ ∃ M', fX12_hour n0 (nI v) (nI c) M = some (nI (T.hF c (pm c).1 (pm c).2 m), M') ∧ VY2 M M' := by
  have h5 := hT.2.1.2.1
  have o := hO c hc
  obtain ⟨h1, h2, _⟩ := hT.1 M v c (pm c).1 (pm c).2 m yTw.r (hL.pm hT.2.2.2.1 hv hc) ⟨by omega, o.1, o.2, hm⟩
  exact ⟨h1, h2⟩
theorem ygoneN {n0 v c : Nat} {M : Mem} (hv : v < 22) (hc : c < 5) (h29 : gA M 29 (5 * v + c) = -1) : ∃ M', fX12_isGone n0 (nI v) (nI c) M = some (0, M') ∧ VY2 M M' := by
  refine ⟨yLay 0 (gA M 30 (5 * v + c)) (nI c) (gA M 28 v) 1 0 M, ?_, yLay_f⟩
  unfold fX12_isGone
  refine eq_b (ylayN hv hc h29) (eq_f (by rw [yIx]; exact nI_in (by omega) (by decide)) (eq_t ?_ rfl))
  rw [yLay_f.2.2.2.1 29 (by decide), yIx, nI_clamp (by omega)]
  exact h29
theorem yputs {n0 v c : Nat} {x : Int32} {M : Mem} (hv : v < 22) (hc : c < 5) : fX12_puts n0 (nI v) (nI c) x M = some (sA (sA M 29 (5 * v + c) x) 30 (5 * v + c) 0) := by
  have c1 : (nI (5 * v + c)).toNatClampNeg = 5 * v + c := nI_clamp (by omega)
  unfold fX12_puts
  simp only [yIx, c1]
  exact eq_f (nI_in (by omega) (by decide)) (eq_n (eq_f (nI_in (by omega) (by decide)) rfl))
abbrev tkL (n0 : Nat) : Nat → Int32 → Int32 → Mem → Option Mem := loopN (bX12_ticks_12 n0) (fun _ _ _ => none)
def pmAt (gF : GF) (m : Nat) (pm : Nat → Int32 × Nat) (c : Nat) : Nat → Int32 × Nat := fun j => if j < c then tk gF j m (pm j) else pm j
theorem ytk {n0 b v m : Nat} {T : TP} {pm : Nat → Int32 × Nat} (hv : v < 22) (hO : PsO T.nt T.nc pm) (hm : m ≤ 20000) : ∀ w c M, c ≤ T.nc → T.nc < w + c → YT n0 b T M → Ly v T.nc m (pmAt T.gF m pm c) M →
    ∃ M', tkL n0 w (nI v) (nI c) M = some M' ∧ Ly v T.nc m (fun j => tk T.gF j m (pm j)) M' ∧ YF (tP v) M M'
  | 0, c, M, hc, hw, _, _ => by omega
  | w + 1, c, M, hc, hw, hT, hL => by
    show ∃ M', bX12_ticks_12 n0 (tkL n0 w) (nI v) (nI c) M = _ ∧ _
    have h5 := hT.2.1.2.1
    have hb := hT.2.2.1
    have h13 := hT.2.2.2.1
    have cb : (nI b).toNatClampNeg = b := nI_clamp (by omega)
    have q5 : gA M 5 (gI M 13).toNatClampNeg = nI T.nc := by rw [h13, cb]; exact hT.2.2.2.2.2.1
    have o13 : ¬ oob (gI M 13) 2 := by rw [h13]; exact nI_in (by omega) (by decide)
    by_cases g : c = T.nc
    · refine ⟨M, ?_, ⟨hL.1, fun j hj => ?_⟩, YF.r⟩
      · unfold bX12_ticks_12
        exact eq_f o13 (eq_t (by rw [q5, g]; exact Int32.le_refl _) rfl)
      · have := hL.2 j hj
        unfold pmAt at this
        rw [if_pos (by omega)] at this
        exact this
    · have c5 : c < 5 := by omega
      have hcn : c < T.nc := by omega
      have pc : pmAt T.gF m pm c c = pm c := if_neg (by omega)
      obtain ⟨l1, l2⟩ := hL.2 c hcn
      rw [pc] at l1 l2
      have ok := hO c hcn
      have ok2 := ok.2
      have c1 : (nI (5 * v + c)).toNatClampNeg = 5 * v + c := nI_clamp (by omega)
      have oc : ¬ oob (nI (5 * v + c)) 110 := nI_in (by omega) (by decide)
      -- one minute longer
      have s1 : ∀ r, fX12_ticks_55 n0 (tkL n0 w) (nI v) (nI c) (sA M 30 (5 * v + c) (nI (min 999 ((pm c).2 + 1)))) = r → bX12_ticks_12 n0 (tkL n0 w) (nI v) (nI c) M = r := fun r hr => by
        unfold bX12_ticks_12
        refine eq_f o13 (eq_f (by rw [q5]; exact nI_ge hcn (by omega)) ?_)
        simp only [yIx, c1, l2]
        refine eq_f oc ?_
        by_cases g9 : 999 ≤ (pm c).2
        · refine eq_t (nI_le (a := 999) g9 (by omega)) ?_
          have e : sA M 30 (5 * v + c) (nI (min 999 ((pm c).2 + 1))) = M := by
            rw [show min 999 ((pm c).2 + 1) = (pm c).2 by omega]
            obtain ⟨a1, a2, a3⟩ := M
            show (a1, va_up a2 30 (upd (a2 30) (5 * v + c) (nI (pm c).2)), a3) = (a1, a2, a3)
            have : va_up a2 30 (upd (a2 30) (5 * v + c) (nI (pm c).2)) = a2 := by
              funext j i
              unfold va_up upd
              by_cases h : j = 30
              · rw [if_pos h, h]
                by_cases h2 : i = 5 * v + c
                · rw [if_pos h2, h2]; exact l2.symm
                · rw [if_neg h2]
              · rw [if_neg h]
            rw [this]
          rw [e] at hr
          exact hr
        · refine eq_f (fun z => g9 ((nI_leI (a := 999) (by omega) (by omega)).mp z)) (eq_f oc (eq_f oc ?_))
          rw [show nI (pm c).2 + 1 = nI ((pm c).2 + 1) from nI_add _ 1, show (pm c).2 + 1 = min 999 ((pm c).2 + 1) by omega]
          exact hr
      have hM1 : ∃ M1, M1 = sA M 30 (5 * v + c) (nI (min 999 ((pm c).2 + 1))) := ⟨_, rfl⟩
      obtain ⟨M1, eM1⟩ := hM1
      rw [← eM1] at s1
      have f1 : YF (tP v) M M1 := by rw [eM1]; exact YF.r.a (by unfold tP; omega)
      have a29 : gA M1 29 (5 * v + c) = (pm c).1 := by rw [eM1, gA_sA_ne (by decide)]; exact l1
      have a30 : gA M1 30 (5 * v + c) = nI (min 999 ((pm c).2 + 1)) := by rw [eM1, gA_sA, if_pos rfl, if_pos rfl]
      have a28 : gA M1 28 v = nI m := by rw [eM1, gA_sA_ne (by decide)]; exact hL.1
      have T1 := hT.yf f1 tP28
      have oth : ∀ j, j < T.nc → ¬ j = c → gA M1 29 (5 * v + j) = (pmAt T.gF m pm c j).1 ∧ gA M1 30 (5 * v + j) = nI (pmAt T.gF m pm c j).2 := fun j hj hne => by
        rw [eM1, gA_sA_ne (by decide), gA_sA, if_pos rfl, if_neg (by omega)]
        exact hL.2 j hj
      have fin : ∀ M2, YF (tP v) M1 M2 → gA M2 28 v = nI m → gA M2 29 (5 * v + c) = (tk T.gF c m (pm c)).1 → gA M2 30 (5 * v + c) = nI (tk T.gF c m (pm c)).2 → (∀ j, ¬ j = c → gA M2 29 (5 * v + j) = gA M1 29 (5 * v + j) ∧ gA M2 30 (5 * v + j) = gA M1 30 (5 * v + j)) → fX12_ticks_55 n0 (tkL n0 w) (nI v) (nI c) M1 = tkL n0 w (nI v) (nI (c + 1)) M2 → ∃ M', bX12_ticks_12 n0 (tkL n0 w) (nI v) (nI c) M = some M' ∧ Ly v T.nc m (fun j => tk T.gF j m (pm j)) M' ∧ YF (tP v) M M' := fun M2 b1 b2 b3 b4 b5 b6 => by
        obtain ⟨M', d1, d2, d3⟩ := ytk hv hO hm w (c + 1) M2 (by omega) (by omega) (T1.yf b1 tP28) ⟨b2, fun j hj => by
          by_cases h : j = c
          · rw [h, b3, b4]
            unfold pmAt
            rw [if_pos (by omega)]
            exact ⟨rfl, rfl⟩
          · rw [(b5 j h).1, (b5 j h).2, (oth j hj h).1, (oth j hj h).2]
            unfold pmAt
            by_cases h2 : j < c
            · rw [if_pos h2, if_pos (by omega)]; exact ⟨rfl, rfl⟩
            · rw [if_neg h2, if_neg (by omega)]; exact ⟨rfl, rfl⟩⟩
        exact ⟨M', s1 _ (b6.trans d1), d2, f1.tr (b1.tr d3)⟩
      have s2 : ∀ (M2 : Mem), fX12_ticks_71 n0 (tkL n0 w) (nI v) (nI c) M2 = tkL n0 w (nI v) (nI (c + 1)) M2 := fun M2 => by
        unfold fX12_ticks_71
        rw [show nI c + 1 = nI (c + 1) from nI_add c 1]
      by_cases hne : (pm c).1 = -1
      · obtain ⟨M2, e1, e2⟩ := ygoneN (n0 := n0) hv c5 (a29.trans hne)
        have tkv : tk T.gF c m (pm c) = ((pm c).1, min 999 ((pm c).2 + 1)) := if_neg (fun z => z.1 hne)
        refine fin M2 e2.y (by rw [e2.2.2.2.1 28 (by decide)]; exact a28) (by rw [e2.2.2.2.1 29 (by decide), tkv]; exact a29) (by rw [e2.2.2.2.1 30 (by decide), tkv]; exact a30) (fun j _ => by rw [e2.2.2.2.1 29 (by decide), e2.2.2.2.1 30 (by decide)]; exact ⟨rfl, rfl⟩) ?_
        unfold fX12_ticks_55
        exact eq_b e1 (eq_t rfl (s2 M2))
      · obtain ⟨M2, e1, e2⟩ := (T1.1 M1 v c (pm c).1 (min 999 ((pm c).2 + 1)) m yTw.r ⟨T1.2.2.2.1, hv, a28, a29, a30⟩ ⟨c5, ok.1, Nat.min_le_left _ _, hm⟩).2.2 hne
        by_cases gg : T.gF c (pm c).1 (min 999 ((pm c).2 + 1)) m = true
        · have tkv : tk T.gF c m (pm c) = (-1, 0) := if_pos ⟨hne, gg⟩
          refine fin (sA (sA M2 29 (5 * v + c) (-1)) 30 (5 * v + c) 0) ((e2.y.a (by unfold tP; omega)).a (by unfold tP; omega)) (by rw [gA_sA_ne (by decide), gA_sA_ne (by decide), e2.2.2.2.1 28 (by decide)]; exact a28) (by rw [gA_sA_ne (by decide), gA_sA, if_pos rfl, if_pos rfl, tkv]) (by rw [gA_sA, if_pos rfl, if_pos rfl, tkv]; rfl) (fun j hj => ⟨by rw [gA_sA_ne (by decide), gA_sA, if_pos rfl, if_neg (by omega), e2.2.2.2.1 29 (by decide)], by rw [gA_sA, if_pos rfl, if_neg (by omega), gA_sA_ne (by decide), e2.2.2.2.1 30 (by decide)]⟩) ?_
          unfold fX12_ticks_55
          exact eq_b e1 (eq_f (show ¬ bI (T.gF c (pm c).1 (min 999 ((pm c).2 + 1)) m = true) = 0 by rw [bI_t gg]; decide) (eq_b (yputs hv c5) (s2 _)))
        · have tkv : tk T.gF c m (pm c) = ((pm c).1, min 999 ((pm c).2 + 1)) := if_neg (fun z => gg z.2)
          refine fin M2 e2.y (by rw [e2.2.2.2.1 28 (by decide)]; exact a28) (by rw [e2.2.2.2.1 29 (by decide), tkv]; exact a29) (by rw [e2.2.2.2.1 30 (by decide), tkv]; exact a30) (fun j _ => by rw [e2.2.2.2.1 29 (by decide), e2.2.2.2.1 30 (by decide)]; exact ⟨rfl, rfl⟩) ?_
          unfold fX12_ticks_55
          exact eq_b e1 (eq_t (show bI (T.gF c (pm c).1 (min 999 ((pm c).2 + 1)) m = true) = 0 from bI_f gg) (s2 M2))
theorem yticks {n0 b v m : Nat} {T : TP} {pm : Nat → Int32 × Nat} {M : Mem} (hn : 1700 ≤ n0) (hT : YT n0 b T M) (hv : v < 22) (hL : Ly v T.nc m pm M) (hO : PsO T.nt T.nc pm) (hm : m < 20000) : ∃ M', fX12_ticks n0 (nI v) M = some M' ∧ Ly v T.nc (m + 1) (fun j => tk T.gF j (m + 1) (pm j)) M' ∧ YF (tP v) M M' := by
  have h5 := hT.2.1.2.1
  have cv : (nI v).toNatClampNeg = v := nI_clamp (by omega)
  have f1 : YF (tP v) M (sA M 28 v (nI (m + 1))) := YF.r.a (by unfold tP; omega)
  obtain ⟨M', e1, e2, e3⟩ := ytk (b := b) (pm := pm) hv hO (show m + 1 ≤ 20000 by omega) n0 0 (sA M 28 v (nI (m + 1))) (by omega) (by omega) (hT.yf f1 tP28) ⟨by rw [gA_sA, if_pos rfl, if_pos rfl], fun c hc => by
    rw [gA_sA_ne (by decide), gA_sA_ne (by decide)]
    unfold pmAt
    rw [if_neg (by omega)]
    exact hL.2 c hc⟩
  refine ⟨M', ?_, e2, f1.tr e3⟩
  unfold fX12_ticks
  simp only [cv, hL.1]
  refine eq_f (nI_in hv (by decide)) (eq_f (nI_in hv (by decide)) (eq_e (v' := sA M 28 v (nI (m + 1))) (by rw [show nI m + 1 = nI (m + 1) from nI_add m 1]) e1))
end
section
/-! DOINGS DONE AND KEPT: bits, rows -/
theorem bt_has : ∀ D, D < 64 → ∀ d, d < 6 → ((((nI D) >>> ((nI d) &&& 31)) &&& (1 : Int32) = 1) ↔ D / 2 ^ d % 2 = 1) := by decide +kernel
theorem bt_or : ∀ D, D < 64 → ∀ d, d < 6 → D / 2 ^ d % 2 = 0 → (nI D) ||| ((1 : Int32) <<< ((nI d) &&& 31)) = nI (D + 2 ^ d) := by decide +kernel
theorem bt_lt : ∀ n, n < 7 → ∀ D, D < 2 ^ n → ∀ d, d < n → D / 2 ^ d % 2 = 0 → D + 2 ^ d < 2 ^ n := by decide +kernel
def pc (D : Nat) : Nat := D % 2 + D / 2 % 2 + D / 4 % 2 + D / 8 % 2 + D / 16 % 2 + D / 32 % 2
theorem pc_le (D : Nat) : pc D ≤ 6 := by unfold pc; omega
theorem bt_pc : ∀ D, D < 64 → ∀ d, d < 6 → D / 2 ^ d % 2 = 0 → pc (D + 2 ^ d) = pc D + 1 := by decide +kernel
theorem bt_at : ∀ D, D < 64 → ∀ d, d < 6 → D / 2 ^ d % 2 = 0 → ∀ e, e < 6 → (D + 2 ^ d) / 2 ^ e % 2 = if e = d then 1 else D / 2 ^ e % 2 := by decide +kernel
theorem p64 {n : Nat} (h : n ≤ 6) : 2 ^ n ≤ 64 := Nat.pow_le_pow_right (n := 2) (by decide) h
theorem yhas2 {n0 D d : Nat} {M : Mem} (hD : D < 64) (hd : d < 6) : fX12_has2 n0 (nI D) (nI d) M = some (bI (D / 2 ^ d % 2 = 1), M) := by
  unfold fX12_has2
  by_cases g : D / 2 ^ d % 2 = 1
  · rw [bI_t g]; exact eq_t ((bt_has D hD d hd).mpr g) rfl
  · rw [bI_f g]; exact eq_f (fun z => g ((bt_has D hD d hd).mp z)) rfl
/-- what is due is done: bits and what is kept, doing by doing -/
def fnS (du : Nat → Bool) (m : Nat) (s : Nat × List (Nat × Nat)) : Nat → Nat × List (Nat × Nat)
  | 0 => s
  | d + 1 => if (fnS du m s d).1 / 2 ^ d % 2 = 0 ∧ du d = true then ((fnS du m s d).1 + 2 ^ d, (fnS du m s d).2 ++ [(m, d)]) else fnS du m s d
def sOk (nd : Nat) (s : Nat × List (Nat × Nat)) : Prop := s.1 < 2 ^ nd ∧ s.2.length ≤ pc s.1
theorem fnS_ok {du : Nat → Bool} {m nd : Nat} {s : Nat × List (Nat × Nat)} (hn : nd ≤ 6) (h : sOk nd s) : ∀ d, d ≤ nd → sOk nd (fnS du m s d)
  | 0, _ => h
  | d + 1, hd => by
    have ih := fnS_ok hn h d (by omega) (du := du) (m := m)
    have := p64 hn
    show sOk nd (if _ then _ else _)
    by_cases g : (fnS du m s d).1 / 2 ^ d % 2 = 0 ∧ du d = true
    · rw [if_pos g]
      refine ⟨bt_lt nd (by omega) _ ih.1 d (by omega) g.1, ?_⟩
      show ((fnS du m s d).2 ++ [(m, d)]).length ≤ pc ((fnS du m s d).1 + 2 ^ d)
      have h1 := ih.1
      have h2 := ih.2
      rw [List.length_append, bt_pc _ (by omega) d (by omega) g.1]
      show _ + 1 ≤ _
      omega
    · rw [if_neg g]; exact ih
theorem fnS_len {du : Nat → Bool} {m : Nat} {s : Nat × List (Nat × Nat)} : ∀ d, s.2.length ≤ (fnS du m s d).2.length
  | 0 => Nat.le_refl _
  | d + 1 => by
    have ih := fnS_len (du := du) (m := m) (s := s) d
    show _ ≤ (if _ then _ else _ : Nat × List (Nat × Nat)).2.length
    by_cases g : (fnS du m s d).1 / 2 ^ d % 2 = 0 ∧ du d = true
    · rw [if_pos g]
      show _ ≤ ((fnS du m s d).2 ++ [(m, d)]).length
      rw [List.length_append]
      omega
    · rw [if_neg g]; exact ih
theorem fnS_pre {du : Nat → Bool} {m : Nat} {s : Nat × List (Nat × Nat)} : ∀ d, ∃ K, (fnS du m s d).2 = s.2 ++ K
  | 0 => ⟨[], (List.append_nil _).symm⟩
  | d + 1 => by
    obtain ⟨K, ih⟩ := fnS_pre (du := du) (m := m) (s := s) d
    have e : fnS du m s (d + 1) = if (fnS du m s d).1 / 2 ^ d % 2 = 0 ∧ du d = true then ((fnS du m s d).1 + 2 ^ d, (fnS du m s d).2 ++ [(m, d)]) else fnS du m s d := rfl
    rw [e]
    by_cases g : (fnS du m s d).1 / 2 ^ d % 2 = 0 ∧ du d = true
    · rw [if_pos g]
      exact ⟨K ++ [(m, d)], by show (fnS du m s d).2 ++ [(m, d)] = _; rw [ih, List.append_assoc]⟩
    · rw [if_neg g]; exact ⟨K, ih⟩
/-- what a layer keeps -/
def KpY (v : Nat) (K : List (Nat × Nat)) (M : Mem) : Prop := gA M 32 v = nI K.length ∧ ∀ i p, K[i]? = some p → gA M 33 (80 * v + 2 * i) = nI p.1 ∧ gA M 33 (80 * v + 2 * i + 1) = nI p.2
theorem ap_at {K : List (Nat × Nat)} {x p : Nat × Nat} {i : Nat} (h : (K ++ [x])[i]? = some p) : (i < K.length ∧ K[i]? = some p) ∨ (i = K.length ∧ p = x) := by
  rcases Nat.lt_or_ge i K.length with g | g
  · rw [List.getElem?_append_left g] at h
    exact Or.inl ⟨g, h⟩
  · rw [List.getElem?_append_right g] at h
    have hi : i - K.length = 0 := by
      rcases Nat.eq_zero_or_pos (i - K.length) with z | z
      · exact z
      · rw [List.getElem?_eq_none (by show 1 ≤ _; omega)] at h
        cases h
    rw [hi] at h
    exact Or.inr ⟨by omega, (Option.some.inj h).symm⟩
theorem K_lt {K : List (Nat × Nat)} {p : Nat × Nat} {i : Nat} (h : K[i]? = some p) : i < K.length := (List.getElem?_eq_some_iff.mp h).1
theorem ywrites {n0 v m d : Nat} {K : List (Nat × Nat)} {M : Mem} (hv : v < 22) (hK : KpY v K M) (hl : K.length < 40) (h28 : gA M 28 v = nI m) : ∃ M', fX12_writesDown n0 (nI v) (nI d) M = some M' ∧ KpY v (K ++ [(m, d)]) M' ∧ gA M' 31 v = gA M 31 v ∧ YF (dP v) M M' := by
  have cv : (nI v).toNatClampNeg = v := nI_clamp (by omega)
  have ov : ¬ oob (nI v) 22 := nI_in hv (by decide)
  have ix : (2 : Int32) * ((40 : Int32) * nI v + nI K.length) = nI (80 * v + 2 * K.length) := by
    rw [show (40 : Int32) = nI 40 from rfl, nI_mul, nI_add, show (2 : Int32) = nI 2 from rfl, nI_mul]
    congr 1
    omega
  have cx : (nI (80 * v + 2 * K.length)).toNatClampNeg = 80 * v + 2 * K.length := nI_clamp (by omega)
  have cy : (nI (80 * v + 2 * K.length + 1)).toNatClampNeg = 80 * v + 2 * K.length + 1 := nI_clamp (by omega)
  have a1 : nI (80 * v + 2 * K.length) + 1 = nI (80 * v + 2 * K.length + 1) := nI_add _ 1
  have k1 : nI K.length + 1 = nI (K.length + 1) := nI_add _ 1
  refine ⟨sA (sA (sA M 33 (80 * v + 2 * K.length) (nI m)) 33 (80 * v + 2 * K.length + 1) (nI d)) 32 v (nI (K.length + 1)), ?_, ⟨?_, fun i p h => ?_⟩, ?_, ?_⟩
  · unfold fX12_writesDown
    refine eq_f ov (eq_f ?_ ?_)
    · rw [cv, hK.1]
      exact fun z => by have := (nI_eq (a := K.length) (b := 40) (by omega) (by decide)).mp z; omega
    · unfold fX12_writesDown_59
      simp only [cv, hK.1, ix, h28, bnd, cx, a1, cy]
      refine eq_f ov (eq_f ov (eq_f (nI_in (by omega) (by decide)) (eq_f (nI_in (by omega) (by decide)) (eq_f ov (eq_f ov ?_)))))
      rw [gA_sA_ne (by decide), gA_sA_ne (by decide), hK.1, k1]
  · rw [gA_sA, if_pos rfl, if_pos rfl, List.length_append]
    rfl
  · rw [gA_sA_ne (by decide), gA_sA, if_pos rfl, gA_sA, if_pos rfl, gA_sA, if_pos rfl, gA_sA, if_pos rfl]
    rcases ap_at h with ⟨g, h⟩ | ⟨rfl, rfl⟩
    · rw [if_neg (by omega), if_neg (by omega), if_neg (by omega), if_neg (by omega)]
      exact hK.2 i p h
    · rw [if_neg (by omega), if_pos rfl, if_pos rfl]
      exact ⟨rfl, rfl⟩
  · rw [gA_sA_ne (by decide), gA_sA_ne (by decide), gA_sA_ne (by decide)]
  · exact ((YF.r.a (by unfold dP; omega)).a (by unfold dP; omega)).a (by unfold dP; omega)
def due (T : TP) (pm : Nat → Int32 × Nat) (m : Nat) : Nat → Bool := fun d => decide (T.hF (T.dc d) (pm (T.dc d)).1 (pm (T.dc d)).2 m = T.dh d)
abbrev fdL (n0 : Nat) : Nat → Int32 → Int32 → Int32 → Mem → Option (Int32 × Mem) := loopN (bX12_finishesDoings_4 n0) (fun _ _ _ _ => none)
theorem KpY.fr {v : Nat} {K : List (Nat × Nat)} {P : Nat → Nat → Prop} {M M' : Mem} (h : KpY v K M) (f : YF P M M') (hl : K.length ≤ 40) (hP : ∀ a i, P a i → ¬ dP v a i) : KpY v K M' := ⟨(f.2.2.2.1 32 v (by decide) (fun z => hP _ _ z (by unfold dP; omega))).trans h.1, fun i p g => by
  have := K_lt g
  rw [f.2.2.2.1 33 _ (by decide) (fun z => hP _ _ z (by unfold dP; omega)), f.2.2.2.1 33 _ (by decide) (fun z => hP _ _ z (by unfold dP; omega))]
  exact h.2 i p g⟩
theorem yfd {n0 b v m : Nat} {T : TP} {pm : Nat → Int32 × Nat} {s : Nat × List (Nat × Nat)} (hv : v < 22) (hO : PsO T.nt T.nc pm) (hm : m ≤ 20000) (hs : sOk T.nd s) :
    ∀ w d M, d ≤ T.nd → T.nd < w + d → YT n0 b T M → Ly v T.nc m pm M → gA M 31 v = nI (fnS (due T pm m) m s d).1 → KpY v (fnS (due T pm m) m s d).2 M →
    ∃ M', fdL n0 w (nI v) (nI ((fnS (due T pm m) m s d).2.length - s.2.length)) (nI d) M = some (nI ((fnS (due T pm m) m s T.nd).2.length - s.2.length), M') ∧ gA M' 31 v = nI (fnS (due T pm m) m s T.nd).1 ∧ KpY v (fnS (due T pm m) m s T.nd).2 M' ∧ YF (dP v) M M'
  | 0, d, M, hd, hw, _, _, _, _ => by omega
  | w + 1, d, M, hd, hw, hT, hL, hD, hK => by
    show ∃ M', bX12_finishesDoings_4 n0 (fdL n0 w) (nI v) _ (nI d) M = _ ∧ _
    have hok := hT.2.1
    have h6 := hok.2.2.1
    have h5 := hok.2.1
    have hb := hT.2.2.1
    have h13 := hT.2.2.2.1
    have cb : (nI b).toNatClampNeg = b := nI_clamp (by omega)
    have cv : (nI v).toNatClampNeg = v := nI_clamp (by omega)
    have ov : ¬ oob (nI v) 22 := nI_in hv (by decide)
    have q10 : gA M 10 (gI M 13).toNatClampNeg = nI T.nd := by rw [h13, cb]; exact hT.2.2.2.2.2.2.1
    have o13 : ¬ oob (gI M 13) 2 := by rw [h13]; exact nI_in (by omega) (by decide)
    have sok := fnS_ok (du := due T pm m) (m := m) h6 hs d (by omega)
    have s64 : (fnS (due T pm m) m s d).1 < 64 := Nat.lt_of_lt_of_le sok.1 (p64 h6)
    have slen := sok.2
    have pcl := pc_le (fnS (due T pm m) m s d).1
    have s0 := fnS_len (du := due T pm m) (m := m) (s := s) d
    by_cases g : d = T.nd
    · subst g
      refine ⟨M, ?_, hD, hK, YF.r⟩
      unfold bX12_finishesDoings_4
      exact eq_f o13 (eq_t (by rw [q10]; exact Int32.le_refl _) rfl)
    · have hdn : d < T.nd := by omega
      obtain ⟨dc1, dc2⟩ := hok.2.2.2 d hdn
      have ld := hT.2.2.2.2.2.2.2 d hdn
      have c6 : (nI (6 * b + d)).toNatClampNeg = 6 * b + d := nI_clamp (by omega)
      have o6 : ¬ oob (nI (6 * b + d)) 12 := nI_in (by omega) (by decide)
      have d1 : nI d + 1 = nI (d + 1) := nI_add d 1
      -- head of the step
      have hd0 : ∀ r, (if bI ((fnS (due T pm m) m s d).1 / 2 ^ d % 2 = 1) = 0 then
          (fX12_hour n0 (nI v) (nI (T.dc d)) M).bind fun z46 =>
          if oob (((6 : Int32) * (gI z46.2 13)) + nI d) 12 then none else
          if z46.1 = (gA z46.2 12 (Int32.toNatClampNeg (((6 : Int32) * (gI z46.2 13)) + nI d))) then
            if oob (nI v) 22 then none else
            if oob (nI v) 22 then none else
            bnd (sA z46.2 31 (Int32.toNatClampNeg (nI v)) ((gA z46.2 31 (Int32.toNatClampNeg (nI v))) ||| ((1 : Int32) <<< (nI d &&& 31)))) fun M80 =>
            (fX12_writesDown n0 (nI v) (nI d) M80).bind fun z84 =>
            fX12_finishesDoings_90 n0 (fdL n0 w) (nI v) (nI ((fnS (due T pm m) m s d).2.length - s.2.length) + (1 : Int32)) (nI d) z84
          else
            fX12_finishesDoings_90 n0 (fdL n0 w) (nI v) (nI ((fnS (due T pm m) m s d).2.length - s.2.length)) (nI d) z46.2
        else
          fX12_finishesDoings_90 n0 (fdL n0 w) (nI v) (nI ((fnS (due T pm m) m s d).2.length - s.2.length)) (nI d) M) = r → bX12_finishesDoings_4 n0 (fdL n0 w) (nI v) (nI ((fnS (due T pm m) m s d).2.length - s.2.length)) (nI d) M = r := fun r hr => by
        unfold bX12_finishesDoings_4
        refine eq_f o13 (eq_f (by rw [q10]; exact nI_ge hdn (by omega)) (eq_f ov (eq_b (z := (bI ((fnS (due T pm m) m s d).1 / 2 ^ d % 2 = 1), M)) (by rw [cv, hD]; exact yhas2 s64 (by omega)) ?_)))
        refine Eq.trans ?_ hr
        by_cases g0 : bI ((fnS (due T pm m) m s d).1 / 2 ^ d % 2 = 1) = 0
        · rw [if_pos g0, if_pos g0]
          refine eq_f (by show ¬ oob ((6 : Int32) * gI M 13 + nI d) 12; rw [h13, y6Ix]; exact o6) ?_
          show Option.bind (fX12_hour n0 (nI v) (gA M 11 ((6 : Int32) * gI M 13 + nI d).toNatClampNeg) M) _ = _
          rw [h13, y6Ix, c6, ld.1]
        · rw [if_neg g0, if_neg g0]
      have nb : ¬ (fnS (due T pm m) m s d).1 / 2 ^ d % 2 = 1 ↔ (fnS (due T pm m) m s d).1 / 2 ^ d % 2 = 0 := by omega
      have dn : fnS (due T pm m) m s (d + 1) = if (fnS (due T pm m) m s d).1 / 2 ^ d % 2 = 0 ∧ due T pm m d = true then ((fnS (due T pm m) m s d).1 + 2 ^ d, (fnS (due T pm m) m s d).2 ++ [(m, d)]) else fnS (due T pm m) m s d := rfl
      by_cases g0 : (fnS (due T pm m) m s d).1 / 2 ^ d % 2 = 1
      · have eS : fnS (due T pm m) m s (d + 1) = fnS (due T pm m) m s d := by rw [dn, if_neg (fun z => by omega)]
        obtain ⟨M', r1, r2, r3, r4⟩ := yfd hv hO hm hs w (d + 1) M (by omega) (by omega) hT hL (by rw [eS]; exact hD) (by rw [eS]; exact hK)
        rw [eS] at r1
        refine ⟨M', hd0 _ (eq_f (by rw [bI_t g0]; decide) ?_), r2, r3, r4⟩
        unfold fX12_finishesDoings_90
        rw [d1]
        exact r1
      · have g00 := nb.mp g0
        obtain ⟨_, M1, e1, e2⟩ := yhr hT hv hL hO hm dc1
        have f1 : YF (dP v) M M1 := e2.y
        have i13 : gI M1 13 = nI b := (congrFun e2.2.2.1 13).trans h13
        have T1 := hT.yf f1 dP28
        have L1 : Ly v T.nc m pm M1 := hL.fr (P := fun _ _ => False) e2.y h5 (fun _ _ z => z.elim)
        have D1 : gA M1 31 v = nI (fnS (due T pm m) m s d).1 := by rw [e2.2.2.2.1 31 (by decide)]; exact hD
        have K1 : KpY v (fnS (due T pm m) m s d).2 M1 := hK.fr (P := fun _ _ => False) e2.y (by omega) (fun _ _ z => z.elim)
        have q12 : gA M1 12 ((6 : Int32) * gI M1 13 + nI d).toNatClampNeg = nI (T.dh d) := by rw [i13, y6Ix, c6, e2.2.2.2.1 12 (by decide)]; exact ld.2
        have oo : ¬ oob ((6 : Int32) * gI M1 13 + nI d) 12 := by rw [i13, y6Ix]; exact o6
        have hh := (hT.1 M v (T.dc d) (pm (T.dc d)).1 (pm (T.dc d)).2 m yTw.r (hL.pm h13 hv dc1) ⟨by omega, (hO _ dc1).1, (hO _ dc1).2, hm⟩).1
        by_cases gd : T.hF (T.dc d) (pm (T.dc d)).1 (pm (T.dc d)).2 m = T.dh d
        · have eS : fnS (due T pm m) m s (d + 1) = ((fnS (due T pm m) m s d).1 + 2 ^ d, (fnS (due T pm m) m s d).2 ++ [(m, d)]) := by rw [dn, if_pos ⟨g00, by unfold due; exact decide_eq_true gd⟩]
          have f2 : YF (dP v) M1 (sA M1 31 v (nI ((fnS (due T pm m) m s d).1 + 2 ^ d))) := YF.r.a (by unfold dP; omega)
          have K2 : KpY v (fnS (due T pm m) m s d).2 (sA M1 31 v (nI ((fnS (due T pm m) m s d).1 + 2 ^ d))) := ⟨by rw [gA_sA_ne (by decide)]; exact K1.1, fun i p z => by rw [gA_sA_ne (by decide)]; exact K1.2 i p z⟩
          obtain ⟨M3, u1, u2, u3, u4⟩ := ywrites (n0 := n0) (d := d) hv K2 (by omega) (m := m) (by rw [gA_sA_ne (by decide)]; exact L1.1)
          have f3 := f2.tr u4
          have T3 := T1.yf f3 dP28
          have L3 : Ly v T.nc m pm M3 := L1.fr f3 h5 (fun a i z y => by unfold dP at z; unfold tP at y; omega)
          obtain ⟨M', r1, r2, r3, r4⟩ := yfd hv hO hm hs w (d + 1) M3 (by omega) (by omega) T3 L3 (by rw [eS, u3, gA_sA, if_pos rfl, if_pos rfl]) (by rw [eS]; exact u2)
          refine ⟨M', hd0 _ (eq_t (by rw [bI_f g0]) (eq_b e1 (eq_f oo (eq_t (by rw [q12]; exact congrArg nI gd) (eq_f ov (eq_f ov (eq_e (v' := sA M1 31 v (nI ((fnS (due T pm m) m s d).1 + 2 ^ d))) ?_ (eq_b u1 ?_)))))))), r2, r3, f1.tr (f3.tr r4)⟩
          · show sA M1 31 (nI v).toNatClampNeg (gA M1 31 (nI v).toNatClampNeg ||| _) = _
            rw [cv, D1, bt_or _ s64 d (by omega) g00]
          · unfold fX12_finishesDoings_90
            rw [d1, show nI ((fnS (due T pm m) m s d).2.length - s.2.length) + 1 = nI ((fnS (due T pm m) m s (d + 1)).2.length - s.2.length) by
              rw [show nI ((fnS (due T pm m) m s d).2.length - s.2.length) + 1 = nI ((fnS (due T pm m) m s d).2.length - s.2.length + 1) from nI_add _ 1, eS]
              congr 1
              show _ = ((fnS (due T pm m) m s d).2 ++ [(m, d)]).length - _
              rw [List.length_append]
              show _ = _ + 1 - _
              omega]
            exact r1
        · have eS : fnS (due T pm m) m s (d + 1) = fnS (due T pm m) m s d := by rw [dn, if_neg (fun z => gd (of_decide_eq_true z.2))]
          obtain ⟨M', r1, r2, r3, r4⟩ := yfd hv hO hm hs w (d + 1) M1 (by omega) (by omega) T1 L1 (by rw [eS]; exact D1) (by rw [eS]; exact K1)
          rw [eS] at r1
          refine ⟨M', hd0 _ (eq_t (by rw [bI_f g0]) (eq_b e1 (eq_f oo (eq_f (by rw [q12]; exact fun z => gd ((nI_eq (by omega) (by omega)).mp z)) ?_)))), r2, r3, f1.tr r4⟩
          unfold fX12_finishesDoings_90
          rw [d1]
          exact r1
theorem yfin {n0 b v m : Nat} {T : TP} {pm : Nat → Int32 × Nat} {s : Nat × List (Nat × Nat)} {M : Mem} (hn : 1700 ≤ n0) (hT : YT n0 b T M) (hv : v < 22) (hL : Ly v T.nc m pm M) (hO : PsO T.nt T.nc pm) (hm : m ≤ 20000) (hs : sOk T.nd s) (hD : gA M 31 v = nI s.1) (hK : KpY v s.2 M) :
    ∃ M', fX12_finishesDoings n0 (nI v) M = some (nI ((fnS (due T pm m) m s T.nd).2.length - s.2.length), M') ∧ gA M' 31 v = nI (fnS (due T pm m) m s T.nd).1 ∧ KpY v (fnS (due T pm m) m s T.nd).2 M' ∧ YF (dP v) M M' := by
  have h6 := hT.2.1.2.2.1
  obtain ⟨M', e⟩ := yfd hv hO hm hs n0 0 M (by omega) (by omega) hT hL hD hK
  refine ⟨M', ?_, e.2⟩
  have e1 := e.1
  rw [show (fnS (due T pm m) m s 0).2.length - s.2.length = 0 from Nat.sub_self _] at e1
  exact e1
end
section
/-! A LAYER COPIED BY THE REFERENCE -/
theorem y80Ix (v c : Nat) : (80 : Int32) * nI v + nI c = nI (80 * v + c) := by
  rw [show (80 : Int32) = nI 80 from rfl, nI_mul, nI_add]
abbrev cpL (n0 : Nat) : Nat → Int32 → Int32 → Int32 → Mem → Option Mem := loopN (bX12_copies_91 n0) (fun _ _ _ _ => none)
theorem ycp91 {n0 v u kn : Nat} (hv : v < 22) (hu : u < 22) (hvu : v ≠ u) (hk : kn ≤ 40) : ∀ w i M, i ≤ 2 * kn → 2 * kn < w + i → gA M 32 u = nI kn → ∃ M', cpL n0 w (nI v) (nI u) (nI i) M = some M' ∧ (∀ j, i ≤ j → j < 2 * kn → gA M' 33 (80 * v + j) = gA M 33 (80 * u + j)) ∧ YF (fun a j => a = 33 ∧ 80 * v + i ≤ j ∧ j < 80 * v + 80) M M'
  | 0, i, M, hi, hw, _ => by omega
  | w + 1, i, M, hi, hw, h32 => by
    show ∃ M', bX12_copies_91 n0 (cpL n0 w) (nI v) (nI u) (nI i) M = _ ∧ _
    have cu : (nI u).toNatClampNeg = u := nI_clamp (by omega)
    have ou : ¬ oob (nI u) 22 := nI_in hu (by decide)
    have e2 : (2 : Int32) * gA M 32 (nI u).toNatClampNeg = nI (2 * kn) := by rw [cu, h32, show (2 : Int32) = nI 2 from rfl, nI_mul]
    by_cases g : i = 2 * kn
    · refine ⟨M, ?_, fun j h1 h2 => by omega, YF.r⟩
      unfold bX12_copies_91
      exact eq_f ou (eq_t (by rw [e2, g]; exact Int32.le_refl _) rfl)
    · have ca : (nI (80 * u + i)).toNatClampNeg = 80 * u + i := nI_clamp (by omega)
      have cb : (nI (80 * v + i)).toNatClampNeg = 80 * v + i := nI_clamp (by omega)
      have f1 : YF (fun a j => a = 33 ∧ 80 * v + i ≤ j ∧ j < 80 * v + 80) M (sA M 33 (80 * v + i) (gA M 33 (80 * u + i))) := YF.r.a ⟨rfl, by omega, by omega⟩
      obtain ⟨M', r1, r2, r3⟩ := ycp91 hv hu hvu hk w (i + 1) (sA M 33 (80 * v + i) (gA M 33 (80 * u + i))) (by omega) (by omega) (by rw [gA_sA_ne (by decide)]; exact h32)
      refine ⟨M', ?_, fun j h1 h2 => ?_, f1.tr (r3.wk (fun a j z => ⟨z.1, by omega, z.2.2⟩))⟩
      · unfold bX12_copies_91
        refine eq_f ou (eq_f (by rw [e2]; exact nI_ge (by omega) (by omega)) ?_)
        simp only [y80Ix, ca, cb]
        refine eq_f (nI_in (by omega) (by decide)) (eq_f (nI_in (by omega) (by decide)) (eq_n ?_))
        rw [show nI i + 1 = nI (i + 1) from nI_add i 1]
        exact r1
      · by_cases h : j = i
        · rw [h, r3.2.2.2.1 33 (80 * v + i) (by decide) (fun z => by have := z.2.1; omega), gA_sA, if_pos rfl, if_pos rfl]
        · rw [r2 j (by omega) h2, gA_sA, if_pos rfl, if_neg (by omega)]
abbrev cqL (n0 : Nat) : Nat → Int32 → Int32 → Int32 → Mem → Option Mem := loopN (bX12_copies_26 n0) (fun _ _ _ _ => none)
theorem ycp26 {n0 v u kn : Nat} (hn : 1700 ≤ n0) (hv : v < 22) (hu : u < 22) (hvu : v ≠ u) (hk : kn ≤ 40) : ∀ w i M, i ≤ 5 → 5 < w + i → gA M 32 u = nI kn → ∃ M', cqL n0 w (nI v) (nI u) (nI i) M = some M' ∧ (∀ j, i ≤ j → j < 5 → gA M' 29 (5 * v + j) = gA M 29 (5 * u + j) ∧ gA M' 30 (5 * v + j) = gA M 30 (5 * u + j)) ∧ gA M' 32 v = nI kn ∧ (∀ j, j < 2 * kn → gA M' 33 (80 * v + j) = gA M 33 (80 * u + j)) ∧ YF (fun a j => ((a = 29 ∨ a = 30) ∧ 5 * v + i ≤ j ∧ j < 5 * v + 5) ∨ (a = 32 ∧ j = v) ∨ (a = 33 ∧ 80 * v ≤ j ∧ j < 80 * v + 80)) M M'
  | 0, i, M, hi, hw, _ => by omega
  | w + 1, i, M, hi, hw, h32 => by
    show ∃ M', bX12_copies_26 n0 (cqL n0 w) (nI v) (nI u) (nI i) M = _ ∧ _
    have cu : (nI u).toNatClampNeg = u := nI_clamp (by omega)
    have cv : (nI v).toNatClampNeg = v := nI_clamp (by omega)
    by_cases g : i = 5
    · obtain ⟨M', r1, r2, r3⟩ := ycp91 (n0 := n0) hv hu hvu hk n0 0 (sA M 32 v (nI kn)) (by omega) (by omega) (by rw [gA_sA, if_pos rfl, if_neg (fun z => hvu z.symm)]; exact h32)
      refine ⟨M', ?_, fun j h1 h2 => by omega, ?_, fun j hj => ?_, (YF.r.a (Or.inr (Or.inl ⟨rfl, rfl⟩))).tr (r3.wk (fun a j z => Or.inr (Or.inr ⟨z.1, by omega, z.2.2⟩)))⟩
      · unfold bX12_copies_26
        refine eq_t (by rw [g]; decide) ?_
        simp only [cu, cv, h32]
        exact eq_f (nI_in hu (by decide)) (eq_f (nI_in hv (by decide)) (eq_n r1))
      · rw [r3.2.2.2.1 32 v (by decide) (fun z => by have := z.1; omega), gA_sA, if_pos rfl, if_pos rfl]
      · rw [r2 j (by omega) hj, gA_sA_ne (by decide)]
    · have ca : (nI (5 * u + i)).toNatClampNeg = 5 * u + i := nI_clamp (by omega)
      have cb : (nI (5 * v + i)).toNatClampNeg = 5 * v + i := nI_clamp (by omega)
      have oa : ¬ oob (nI (5 * u + i)) 110 := nI_in (by omega) (by decide)
      have ob : ¬ oob (nI (5 * v + i)) 110 := nI_in (by omega) (by decide)
      have hM1 : ∃ M1, M1 = sA (sA M 29 (5 * v + i) (gA M 29 (5 * u + i))) 30 (5 * v + i) (gA M 30 (5 * u + i)) := ⟨_, rfl⟩
      obtain ⟨M1, eM⟩ := hM1
      have f1 : YF (fun a j => ((a = 29 ∨ a = 30) ∧ 5 * v + i ≤ j ∧ j < 5 * v + 5) ∨ (a = 32 ∧ j = v) ∨ (a = 33 ∧ 80 * v ≤ j ∧ j < 80 * v + 80)) M M1 := by
        rw [eM]
        exact (YF.r.a (Or.inl ⟨Or.inl rfl, by omega, by omega⟩)).a (Or.inl ⟨Or.inr rfl, by omega, by omega⟩)
      obtain ⟨M', r1, r2, r3, r4, r5⟩ := ycp26 hn hv hu hvu hk w (i + 1) M1 (by omega) (by omega) (by rw [eM, gA_sA_ne (by decide), gA_sA_ne (by decide)]; exact h32)
      refine ⟨M', ?_, fun j h1 h2 => ?_, r3, fun j hj => ?_, f1.tr (r5.wk (fun a j z => by omega))⟩
      · unfold bX12_copies_26
        refine eq_f (fun z => by have := (nI_leI (a := 5) (b := i) (by decide) (by omega)).mp z; omega) ?_
        simp only [yIx, ca, cb]
        refine eq_f oa (eq_f ob (eq_n (eq_f oa (eq_f ob (eq_e (v' := M1) (by rw [eM, gA_sA_ne (by decide)]) ?_)))))
        rw [show nI i + 1 = nI (i + 1) from nI_add i 1]
        exact r1
      · by_cases h : j = i
        · rw [h, r5.2.2.2.1 29 (5 * v + i) (by decide) (fun z => by omega), r5.2.2.2.1 30 (5 * v + i) (by decide) (fun z => by omega), eM]
          exact ⟨by rw [gA_sA_ne (by decide), gA_sA, if_pos rfl, if_pos rfl], by rw [gA_sA, if_pos rfl, if_pos rfl]⟩
        · obtain ⟨k1, k2⟩ := r2 j (by omega) h2
          rw [k1, k2, eM]
          exact ⟨by rw [gA_sA_ne (by decide), gA_sA, if_pos rfl, if_neg (by omega)], by rw [gA_sA, if_pos rfl, if_neg (by omega), gA_sA_ne (by decide)]⟩
      · rw [r4 j hj, eM, gA_sA_ne (by decide), gA_sA_ne (by decide)]
theorem ycopy {n0 v u kn : Nat} {M : Mem} (hn : 1700 ≤ n0) (hv : v < 22) (hu : u < 22) (hvu : v ≠ u) (hk : kn ≤ 40) (h32 : gA M 32 u = nI kn) : ∃ M', fX12_copies n0 (nI v) (nI u) M = some M' ∧ gA M' 28 v = gA M 28 u ∧ gA M' 31 v = gA M 31 u ∧ (∀ j, j < 5 → gA M' 29 (5 * v + j) = gA M 29 (5 * u + j) ∧ gA M' 30 (5 * v + j) = gA M 30 (5 * u + j)) ∧ gA M' 32 v = nI kn ∧ (∀ j, j < 2 * kn → gA M' 33 (80 * v + j) = gA M 33 (80 * u + j)) ∧ YF (lP v) M M' := by
  have cu : (nI u).toNatClampNeg = u := nI_clamp (by omega)
  have cv : (nI v).toNatClampNeg = v := nI_clamp (by omega)
  have ou : ¬ oob (nI u) 22 := nI_in hu (by decide)
  have ov : ¬ oob (nI v) 22 := nI_in hv (by decide)
  have hM1 : ∃ M1, M1 = sA (sA M 28 v (gA M 28 u)) 31 v (gA M 31 u) := ⟨_, rfl⟩
  obtain ⟨M1, eM⟩ := hM1
  have f1 : YF (lP v) M M1 := by
    rw [eM]
    exact (YF.r.a (by unfold lP tP dP; omega)).a (by unfold lP tP dP; omega)
  obtain ⟨M', r1, r2, r3, r4, r5⟩ := ycp26 (n0 := n0) hn hv hu hvu hk n0 0 M1 (by omega) (by omega) (by rw [eM, gA_sA_ne (by decide), gA_sA_ne (by decide)]; exact h32)
  refine ⟨M', ?_, ?_, ?_, fun j hj => ?_, r3, fun j hj => ?_, f1.tr (r5.wk (fun a j z => by unfold lP tP dP; omega))⟩
  · unfold fX12_copies
    simp only [cu, cv]
    exact eq_f ou (eq_f ov (eq_n (eq_f ou (eq_f ov (eq_e (v' := M1) (by rw [eM, gA_sA_ne (by decide)]) r1)))))
  · rw [r5.2.2.2.1 28 v (by decide) (fun z => by omega), eM, gA_sA_ne (by decide), gA_sA, if_pos rfl, if_pos rfl]
  · rw [r5.2.2.2.1 31 v (by decide) (fun z => by omega), eM, gA_sA, if_pos rfl, if_pos rfl]
  · obtain ⟨k1, k2⟩ := r2 j (by omega) hj
    rw [k1, k2, eM, gA_sA_ne (by decide), gA_sA_ne (by decide), gA_sA_ne (by decide), gA_sA_ne (by decide)]
    exact ⟨rfl, rfl⟩
  · rw [r4 j hj, eM, gA_sA_ne (by decide), gA_sA_ne (by decide)]
/-- the whole of a layer: minute, palms, bits, kept -/
def LyD (v nc m : Nat) (pm : Nat → Int32 × Nat) (s : Nat × List (Nat × Nat)) (M : Mem) : Prop := Ly v nc m pm M ∧ gA M 31 v = nI s.1 ∧ KpY v s.2 M
theorem ycopyD {n0 v u nc m : Nat} {pm : Nat → Int32 × Nat} {s : Nat × List (Nat × Nat)} {M : Mem} (hn : 1700 ≤ n0) (hv : v < 22) (hu : u < 22) (hvu : v ≠ u) (hc : nc ≤ 5) (hk : s.2.length ≤ 6) (h : LyD u nc m pm s M) : ∃ M', fX12_copies n0 (nI v) (nI u) M = some M' ∧ LyD v nc m pm s M' ∧ YF (lP v) M M' := by
  obtain ⟨M', r1, r2, r3, r4, r5, r6, r7⟩ := ycopy (n0 := n0) (kn := s.2.length) hn hv hu hvu (by omega) h.2.2.1
  refine ⟨M', r1, ⟨⟨r2.trans h.1.1, fun c hc2 => ?_⟩, r3.trans h.2.1, r5, fun i p hp => ?_⟩, r7⟩
  · rw [(r4 c (by omega)).1, (r4 c (by omega)).2]
    exact h.1.2 c hc2
  · have := K_lt hp
    rw [r6 (2 * i) (by omega), Nat.add_assoc, r6 (2 * i + 1) (by omega), ← Nat.add_assoc]
    exact h.2.2.2 i p hp
theorem LyD.fr {v nc m : Nat} {pm : Nat → Int32 × Nat} {s : Nat × List (Nat × Nat)} {P : Nat → Nat → Prop} {M M' : Mem} (h : LyD v nc m pm s M) (f : YF P M M') (hc : nc ≤ 5) (hk : s.2.length ≤ 40) (hP : ∀ a i, P a i → ¬ lP v a i) : LyD v nc m pm s M' :=
  ⟨h.1.fr f hc (fun a i z y => hP a i z (Or.inl y)), (f.2.2.2.1 31 v (by decide) (fun z => hP _ _ z (by unfold lP dP; omega))).trans h.2.1, h.2.2.fr f hk (fun a i z y => hP a i z (Or.inr y))⟩
/-- a minute of a layer, doings and all -/
def nxP (T : TP) (m : Nat) (pm : Nat → Int32 × Nat) : Nat → Int32 × Nat := fun j => tk T.gF j (m + 1) (pm j)
def nxS (T : TP) (m : Nat) (pm : Nat → Int32 × Nat) (s : Nat × List (Nat × Nat)) : Nat × List (Nat × Nat) := fnS (due T (nxP T m pm) (m + 1)) (m + 1) s T.nd
theorem nxP_ok {T : TP} {m : Nat} {pm : Nat → Int32 × Nat} (h : PsO T.nt T.nc pm) : PsO T.nt T.nc (nxP T m pm) := fun c hc => tk_ok (h c hc)
theorem sOk.l {nd : Nat} {s : Nat × List (Nat × Nat)} (h : sOk nd s) : s.2.length ≤ 6 := Nat.le_trans h.2 (pc_le _)
theorem ytickD {n0 b v m : Nat} {T : TP} {pm : Nat → Int32 × Nat} {s : Nat × List (Nat × Nat)} {M : Mem} (hn : 1700 ≤ n0) (hT : YT n0 b T M) (hv : v < 22) (h : LyD v T.nc m pm s M) (hO : PsO T.nt T.nc pm) (hs : sOk T.nd s) (hm : m < 20000) : ∃ M', fX12_ticks n0 (nI v) M = some M' ∧ LyD v T.nc (m + 1) (nxP T m pm) s M' ∧ YF (lP v) M M' := by
  obtain ⟨M', e1, e2, e3⟩ := yticks hn hT hv h.1 hO hm
  have hl := hs.l
  exact ⟨M', e1, ⟨e2, (e3.2.2.2.1 31 v (by decide) (fun z => by unfold tP at z; omega)).trans h.2.1, h.2.2.fr e3 (by omega) (fun a i z y => by unfold tP at z; unfold dP at y; omega)⟩, e3.wk (fun a i z => Or.inl z)⟩
theorem yfinD {n0 b v m : Nat} {T : TP} {pm : Nat → Int32 × Nat} {s : Nat × List (Nat × Nat)} {M : Mem} (hn : 1700 ≤ n0) (hT : YT n0 b T M) (hv : v < 22) (h : LyD v T.nc m pm s M) (hO : PsO T.nt T.nc pm) (hs : sOk T.nd s) (hm : m ≤ 20000) : ∃ M', fX12_finishesDoings n0 (nI v) M = some (nI ((fnS (due T pm m) m s T.nd).2.length - s.2.length), M') ∧ LyD v T.nc m pm (fnS (due T pm m) m s T.nd) M' ∧ YF (lP v) M M' := by
  obtain ⟨M', e1, e2, e3, e4⟩ := yfin hn hT hv h.1 hO hm hs h.2.1 h.2.2
  exact ⟨M', e1, ⟨h.1.fr e4 hT.2.1.2.1 (fun a i z y => by unfold dP at z; unfold tP at y; omega), e2, e3⟩, e4.wk (fun a i z => Or.inr z)⟩
theorem ypassD {n0 b v m : Nat} {T : TP} {pm : Nat → Int32 × Nat} {s : Nat × List (Nat × Nat)} {M : Mem} (hn : 1700 ≤ n0) (hT : YT n0 b T M) (hv : v < 22) (h : LyD v T.nc m pm s M) (hO : PsO T.nt T.nc pm) (hs : sOk T.nd s) (hm : m < 20000) : ∃ M', fX12_passes n0 (nI v) M = some (nI ((nxS T m pm s).2.length - s.2.length), M') ∧ LyD v T.nc (m + 1) (nxP T m pm) (nxS T m pm s) M' ∧ sOk T.nd (nxS T m pm s) ∧ YF (lP v) M M' := by
  obtain ⟨M1, e1, e2, e3⟩ := ytickD hn hT hv h hO hs hm
  obtain ⟨M2, g1, g2, g3⟩ := yfinD hn (hT.yf e3 lP28) hv e2 (nxP_ok hO) hs (by omega)
  refine ⟨M2, ?_, g2, fnS_ok hT.2.1.2.2.1 hs _ (Nat.le_refl _), e3.tr g3⟩
  unfold fX12_passes
  exact eq_b e1 (eq_b g1 rfl)
end
