/-! HOURS AND ENDS AS FUNCTIONS OF CORNER, THING, HELD, MINUTE -/
def xTw (q : Nat) (M M' : Mem) : Prop := (∀ j, 128 * q ≤ j → j < 128 * q + 2048 → gI M' j = gI M j) ∧ ∀ a, q ≤ a → a < q + 16 → gA M' a = gA M a
def yTw (b : Nat) (M M' : Mem) : Prop := (∀ a i, a ≤ 17 → regA b a i → gA M' a i = gA M a i) ∧ ∀ a i, regB b a i → gB M' a i = gB M a i
theorem xTw.r {q : Nat} {M : Mem} : xTw q M M := ⟨fun _ _ _ => rfl, fun _ _ _ => rfl⟩
theorem yTw.r {b : Nat} {M : Mem} : yTw b M M := ⟨fun _ _ _ _ => rfl, fun _ _ _ => rfl⟩
theorem xTw.tr {q : Nat} {M M' M2 : Mem} (h : xTw q M M') (g : xTw q M' M2) : xTw q M M2 := ⟨fun j a b => (g.1 j a b).trans (h.1 j a b), fun j a b => (g.2 j a b).trans (h.2 j a b)⟩
theorem yTw.tr {b : Nat} {M M' M2 : Mem} (h : yTw b M M') (g : yTw b M' M2) : yTw b M M2 := ⟨fun j i a z => (g.1 j i a z).trans (h.1 j i a z), fun j i z => (g.2 j i z).trans (h.2 j i z)⟩
theorem yTw.all {b : Nat} {M M' : Mem} (h1 : ∀ a, 2 ≤ a → a ≤ 17 → gA M' a = gA M a) (h2 : ∀ a, 18 ≤ a → a ≤ 20 → gB M' a = gB M a) : yTw b M M' := ⟨fun a i z y => by rw [h1 a (by unfold regA at y; omega) z], fun a i y => by rw [h2 a (by unfold regB at y; omega) (by unfold regB at y; omega)]⟩
theorem TownR.tw {q b nt nc nd nr C : Nat} {MX MY MX' MY' : Mem} (h : TownR q b nt nc nd nr C MX MY) (hx : xTw q MX MX') (hy : yTw b MY MY') : TownR q b nt nc nd nr C MX' MY' :=
  h.cong (fun j a b => hx.1 j (by omega) b) (fun a h1 h2 => hx.2 a h1 h2) (fun a i h1 h2 => hy.1 a i (by unfold regA at h2; omega) h2) (fun a i h2 => hy.2 a i h2)
abbrev HF : Type := Nat → Int32 → Nat → Nat → Nat
abbrev GF : Type := Nat → Int32 → Nat → Nat → Bool
def FnX (n0 q nt : Nat) (hF : HF) (gF : GF) (M0 : Mem) : Prop := ∀ M c t h m, xTw q M0 M → PmX q c t h m M → PmO nt c t h m → hF c t h m ≤ 23 ∧ (∃ M', fX1_hourNow n0 M = some (nI (hF c t h m), M') ∧ VX2 M M') ∧ (¬ t = -1 → ∃ M', xTst n0 M = fX1_goOn_106 n0 (bI (gF c t h m = true)) M' ∧ VX2 M M')
def FnY (n0 b nt : Nat) (hF : HF) (gF : GF) (M0 : Mem) : Prop := ∀ M v c t h m, yTw b M0 M → PmY b v c t h m M → PmO nt c t h m → hF c t h m ≤ 23 ∧ (∃ M', fX12_hour n0 (nI v) (nI c) M = some (nI (hF c t h m), M') ∧ VY2 M M') ∧ (¬ t = -1 → ∃ M', fX12_isGone n0 (nI v) (nI c) M = some (bI (gF c t h m = true), M') ∧ VY2 M M')
theorem bIb {g g0 : Bool} (h : bI (g = true) = bI (g0 = true)) : g = g0 := by
  cases g <;> cases g0 <;> first | rfl | exact absurd h (by decide)
theorem townF1 {n0 q b nt nc nd nr C : Nat} {MX MY : Mem} (hn : 1700 ≤ n0) (hT : TownR q b nt nc nd nr C MX MY) (hq : q = 31 ∨ q = 47) (hb : b ≤ 1) (c : Nat) (t : Int32) (h m : Nat) :
    ∃ r : Nat × Bool, (∀ M, xTw q MX M → PmX q c t h m M → PmO nt c t h m → r.1 ≤ 23 ∧ (∃ M', fX1_hourNow n0 M = some (nI r.1, M') ∧ VX2 M M') ∧ (¬ t = -1 → ∃ M', xTst n0 M = fX1_goOn_106 n0 (bI (r.2 = true)) M' ∧ VX2 M M')) ∧ (∀ M v, yTw b MY M → PmY b v c t h m M → PmO nt c t h m → r.1 ≤ 23 ∧ (∃ M', fX12_hour n0 (nI v) (nI c) M = some (nI r.1, M') ∧ VY2 M M') ∧ (¬ t = -1 → ∃ M', fX12_isGone n0 (nI v) (nI c) M = some (bI (r.2 = true), M') ∧ VY2 M M')) := by
  by_cases hO : PmO nt c t h m
  · have hXc : PmX q c t h m (sI (sI (sI (sI (sR MX 896 q) 897 (nI c)) 898 t) 899 (nI h)) 900 (nI m)) := ⟨rfl, rfl, rfl, rfl, rfl⟩
    have tX : xTw q MX (sI (sI (sI (sI (sR MX 896 q) 897 (nI c)) 898 t) 899 (nI h)) 900 (nI m)) := ⟨fun j a _ => by rw [gI_ne (by omega), gI_ne (by omega), gI_ne (by omega), gI_ne (by omega)]; rfl, fun _ _ _ => rfl⟩
    have hYc : PmY b 0 c t h m (sA (sA (sA (sI MY 13 (nI b)) 28 0 (nI m)) 29 (5 * 0 + c) t) 30 (5 * 0 + c) (nI h)) := ⟨rfl, by decide, rfl, by rw [gA_sA_ne (by decide), gA_sA, if_pos rfl, if_pos rfl], by rw [gA_sA, if_pos rfl, if_pos rfl]⟩
    have tY : yTw b MY (sA (sA (sA (sI MY 13 (nI b)) 28 0 (nI m)) 29 (5 * 0 + c) t) 30 (5 * 0 + c) (nI h)) := ⟨fun a i _ _ => by rw [gA_sA_ne (by omega), gA_sA_ne (by omega), gA_sA_ne (by omega)]; rfl, fun _ _ _ => rfl⟩
    have key : ∀ M N v, xTw q MX M → PmX q c t h m M → yTw b MY N → PmY b v c t h m N → ∃ k M' N', k ≤ 23 ∧ fX1_hourNow n0 M = some (nI k, M') ∧ fX12_hour n0 (nI v) (nI c) N = some (nI k, N') ∧ VX2 M M' ∧ VY2 N N' := fun M N v a1 a2 a3 a4 => hourP hn (hT.tw a1 a3) hq hb a2 a4 hO
    have keg : ¬ t = -1 → ∀ M N v, xTw q MX M → PmX q c t h m M → yTw b MY N → PmY b v c t h m N → ∃ (g : Bool) (M' N' : Mem), xTst n0 M = fX1_goOn_106 n0 (bI (g = true)) M' ∧ fX12_isGone n0 (nI v) (nI c) N = some (bI (g = true), N') ∧ VX2 M M' ∧ VY2 N N' := fun hne M N v a1 a2 a3 a4 => goneP hn (hT.tw a1 a3) hq hb a2 a4 hO hne
    obtain ⟨k, _, _, k1, k2, k3, _, _⟩ := key _ _ 0 tX hXc tY hYc
    have xh : ∀ M, xTw q MX M → PmX q c t h m M → ∃ M', fX1_hourNow n0 M = some (nI k, M') ∧ VX2 M M' := fun M a1 a2 => by
      obtain ⟨k', M', _, l1, l2, l3, l4, _⟩ := key M _ 0 a1 a2 tY hYc
      have e := Option.some.inj (k3.symm.trans l3)
      have e1 : k = k' := (nI_eq (by omega) (by omega)).mp (Prod.mk.inj e).1
      subst e1
      exact ⟨M', l2, l4⟩
    have yh : ∀ N v, yTw b MY N → PmY b v c t h m N → ∃ N', fX12_hour n0 (nI v) (nI c) N = some (nI k, N') ∧ VY2 N N' := fun N v a1 a2 => by
      obtain ⟨k', _, N', l1, l2, l3, _, l5⟩ := key _ N v tX hXc a1 a2
      have e := Option.some.inj (k2.symm.trans l2)
      have e1 : k = k' := (nI_eq (by omega) (by omega)).mp (Prod.mk.inj e).1
      subst e1
      exact ⟨N', l3, l5⟩
    by_cases hne : t = -1
    · exact ⟨(k, false), fun M a1 a2 _ => ⟨k1, xh M a1 a2, fun z => absurd hne z⟩, fun M v a1 a2 _ => ⟨k1, yh M v a1 a2, fun z => absurd hne z⟩⟩
    · obtain ⟨g, M1, N1, g1, g2, g3, g4⟩ := keg hne _ _ 0 tX hXc tY hYc
      have yg : ∀ N v, yTw b MY N → PmY b v c t h m N → ∃ (g' : Bool) (M' N' : Mem), xTst n0 (sI (sI (sI (sI (sR MX 896 q) 897 (nI c)) 898 t) 899 (nI h)) 900 (nI m)) = fX1_goOn_106 n0 (bI (g' = true)) M' ∧ fX12_isGone n0 (nI v) (nI c) N = some (bI (g' = true), N') ∧ VX2 (sI (sI (sI (sI (sR MX 896 q) 897 (nI c)) 898 t) 899 (nI h)) 900 (nI m)) M' ∧ VY2 N N' := fun N v a1 a2 => by
        obtain ⟨g', M', N', l1, l2, l3, l4⟩ := keg hne _ N v tX hXc a1 a2
        exact ⟨g', M', N', l1, l2, l3, l4⟩
      have go106 : ∀ (u : Bool) (M : Mem), PmX q c t h m M → ∃ M', fX1_goOn_106 n0 (bI (u = true)) M = some M' ∧ gI M' 898 = if u = true then -1 else t := fun u M a => by
        cases u
        · exact ⟨M, by unfold fX1_goOn_106; exact eq_t (bI_f (by decide)) rfl, a.2.2.1⟩
        · exact ⟨sI (sI M 898 (-1)) 899 0, by unfold fX1_goOn_106; exact eq_f (by rw [bI_t rfl]; decide) rfl, rfl⟩
      refine ⟨(k, g), fun M a1 a2 _ => ⟨k1, xh M a1 a2, fun _ => ?_⟩, fun M v a1 a2 _ => ⟨k1, yh M v a1 a2, fun _ => ?_⟩⟩
      · obtain ⟨g', M', _, l1, l2, l3, _⟩ := keg hne M _ 0 a1 a2 tY hYc
        have e : g = g' := bIb (Prod.mk.inj (Option.some.inj (g2.symm.trans l2))).1
        subst e
        exact ⟨M', l1, l3⟩
      · obtain ⟨g', M', N', l1, l2, l3, l4⟩ := yg M v a1 a2
        have p1 : ∀ M', VX2 (sI (sI (sI (sI (sR MX 896 q) 897 (nI c)) 898 t) 899 (nI h)) 900 (nI m)) M' → PmX q c t h m M' := fun M' z => ⟨by rw [z.1]; rfl, (z.2.2.2.2 897 (by decide)).trans rfl, (z.2.2.2.2 898 (by decide)).trans rfl, (z.2.2.2.2 899 (by decide)).trans rfl, (z.2.2.2.2 900 (by decide)).trans rfl⟩
        obtain ⟨W1, w1, w2⟩ := go106 g M1 (p1 _ g3)
        obtain ⟨W2, w3, w4⟩ := go106 g' M' (p1 _ l3)
        have e := Option.some.inj ((w1.symm.trans g1.symm).trans (l1.trans w3))
        rw [← e, w2] at w4
        have e2 : g = g' := by
          cases g <;> cases g' <;> first | rfl | exact absurd w4 hne | exact absurd w4.symm hne
        subst e2
        exact ⟨N', l2, l4⟩
  · exact ⟨(0, false), fun M _ _ a => absurd a hO, fun M v _ _ a => absurd a hO⟩
theorem townF {n0 q b nt nc nd nr C : Nat} {MX MY : Mem} (hn : 1700 ≤ n0) (hT : TownR q b nt nc nd nr C MX MY) (hq : q = 31 ∨ q = 47) (hb : b ≤ 1) : ∃ (hF : HF) (gF : GF), FnX n0 q nt hF gF MX ∧ FnY n0 b nt hF gF MY := by
  have H := townF1 hn hT hq hb
  refine ⟨fun c t h m => (Classical.choose (H c t h m)).1, fun c t h m => (Classical.choose (H c t h m)).2, fun M c t h m a1 a2 a3 => ?_, fun M v c t h m a1 a2 a3 => ?_⟩
  · exact (Classical.choose_spec (H c t h m)).1 M a1 a2 a3
  · exact (Classical.choose_spec (H c t h m)).2 M v a1 a2 a3
theorem FnX.tw {n0 q nt : Nat} {hF : HF} {gF : GF} {M M' : Mem} (h : FnX n0 q nt hF gF M) (t : xTw q M M') : FnX n0 q nt hF gF M' := fun N c u x m a1 a2 a3 => h N c u x m (t.tr a1) a2 a3
theorem FnY.tw {n0 b nt : Nat} {hF : HF} {gF : GF} {M M' : Mem} (h : FnY n0 b nt hF gF M) (t : yTw b M M') : FnY n0 b nt hF gF M' := fun N v c u x m a1 a2 a3 => h N v c u x m (t.tr a1) a2 a3
