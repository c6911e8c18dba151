/-! A LAYER OF THE REFERENCE: palms and minute, doings done, what is kept -/
/-- a town's numbers and functions: things, corners, doings, the corner and the hour of a doing, hours, ends -/
def TP : Type := Nat × Nat × Nat × (Nat → Nat) × (Nat → Nat) × HF × GF
def TP.nt (T : TP) : Nat := T.1
def TP.nc (T : TP) : Nat := T.2.1
def TP.nd (T : TP) : Nat := T.2.2.1
def TP.dc (T : TP) : Nat → Nat := T.2.2.2.1
def TP.dh (T : TP) : Nat → Nat := T.2.2.2.2.1
def TP.hF (T : TP) : HF := T.2.2.2.2.2.1
def TP.gF (T : TP) : GF := T.2.2.2.2.2.2
def TP.ok (T : TP) : Prop := T.nt ≤ 6 ∧ T.nc ≤ 5 ∧ T.nd ≤ 6 ∧ ∀ d, d < T.nd → T.dc d < T.nc ∧ T.dh d ≤ 23
def XT (n0 q : Nat) (T : TP) (M : Mem) : Prop := XTn n0 q T.nt T.hF T.gF M ∧ T.ok ∧ gI M (128 * q + 5) = nI T.nc ∧ gI M (128 * q + 12) = nI T.nd ∧ ∀ d, d < T.nd → gA M (q + 10) d = nI (T.dc d) ∧ gA M (q + 11) d = nI (T.dh d)
def YT (n0 b : Nat) (T : TP) (M : Mem) : Prop := FnY n0 b T.nt T.hF T.gF M ∧ T.ok ∧ b ≤ 1 ∧ gI M 13 = nI b ∧ gA M 2 b = nI T.nt ∧ gA M 5 b = nI T.nc ∧ gA M 10 b = nI T.nd ∧ ∀ d, d < T.nd → gA M 11 (6 * b + d) = nI (T.dc d) ∧ gA M 12 (6 * b + d) = nI (T.dh d)
theorem XT.tw {n0 q : Nat} {T : TP} {M M' : Mem} (h : XT n0 q T M) (t : xTw q M M') : XT n0 q T M' := ⟨h.1.tw t, h.2.1, (t.1 _ (by omega) (by omega)).trans h.2.2.1, (t.1 _ (by omega) (by omega)).trans h.2.2.2.1, fun d hd => by
  rw [t.2 _ (by omega) (by omega), t.2 _ (by omega) (by omega)]
  exact h.2.2.2.2 d hd⟩
theorem XT.xf {n0 q : Nat} {T : TP} {A : Nat → Prop} {M M' : Mem} (h : XT n0 q T M) (t : XF A M M') (hA : ∀ a, A a → a < 31 ∨ 63 ≤ a) : XT n0 q T M' := h.tw (t.tw h.1.1 hA)
theorem YT.tw {n0 b : Nat} {T : TP} {M M' : Mem} (h : YT n0 b T M) (t : yTw b M M') (h13 : gI M' 13 = gI M 13) : YT n0 b T M' := ⟨h.1.tw t, h.2.1, h.2.2.1, h13.trans h.2.2.2.1, by rw [t.1 2 b (by omega) (by unfold regA; omega)]; exact h.2.2.2.2.1, by rw [t.1 5 b (by omega) (by unfold regA; omega)]; exact h.2.2.2.2.2.1, by rw [t.1 10 b (by omega) (by unfold regA; omega)]; exact h.2.2.2.2.2.2.1, fun d hd => by
  have h6 := h.2.1.2.2.1
  rw [t.1 11 (6 * b + d) (by omega) (by unfold regA; omega), t.1 12 (6 * b + d) (by omega) (by unfold regA; omega)]
  exact h.2.2.2.2.2.2.2 d hd⟩
/-- what the reference may change beside the cells P while it looks at palms -/
def YF (P : Nat → Nat → Prop) (M M' : Mem) : Prop := gR M' = gR M ∧ gL M' = gL M ∧ gI M' = gI M ∧ (∀ a i, ¬ a = 35 → ¬ P a i → gA M' a i = gA M a i) ∧ ∀ a, ¬ a = 34 → gB M' a = gB M a
def tP (v a i : Nat) : Prop := (a = 28 ∧ i = v) ∨ ((a = 29 ∨ a = 30) ∧ 5 * v ≤ i ∧ i < 5 * v + 5)
def dP (v a i : Nat) : Prop := ((a = 31 ∨ a = 32) ∧ i = v) ∨ (a = 33 ∧ 80 * v ≤ i ∧ i < 80 * v + 80)
def lP (v a i : Nat) : Prop := tP v a i ∨ dP v a i
theorem YF.r {P : Nat → Nat → Prop} {M : Mem} : YF P M M := ⟨rfl, rfl, rfl, fun _ _ _ _ => rfl, fun _ _ => rfl⟩
theorem YF.tr {P : Nat → Nat → Prop} {M M' M2 : Mem} (h : YF P M M') (g : YF P M' M2) : YF P M M2 := ⟨g.1.trans h.1, g.2.1.trans h.2.1, g.2.2.1.trans h.2.2.1, fun a i z y => (g.2.2.2.1 a i z y).trans (h.2.2.2.1 a i z y), fun a z => (g.2.2.2.2 a z).trans (h.2.2.2.2 a z)⟩
theorem YF.wk {P Q : Nat → Nat → Prop} {M M' : Mem} (h : YF P M M') (g : ∀ a i, P a i → Q a i) : YF Q M M' := ⟨h.1, h.2.1, h.2.2.1, fun a i z y => h.2.2.2.1 a i z (fun e => y (g a i e)), h.2.2.2.2⟩
theorem YF.a {P : Nat → Nat → Prop} {M M' : Mem} {a i : Nat} {v : Int32} (h : YF P M M') (hk : P a i) : YF P M (sA M' a i v) := ⟨h.1, h.2.1, h.2.2.1, fun c j z y => by
  rw [gA_sA]
  by_cases e : c = a
  · subst e
    rw [if_pos rfl, if_neg (fun e => y (by rw [e]; exact hk))]
    exact h.2.2.2.1 _ _ z y
  · rw [if_neg e]
    exact h.2.2.2.1 _ _ z y, h.2.2.2.2⟩
theorem VY2.y {P : Nat → Nat → Prop} {M M' : Mem} (h : VY2 M M') : YF P M M' := ⟨h.1, h.2.1, h.2.2.1, fun a i z _ => by rw [h.2.2.2.1 a z], h.2.2.2.2⟩
theorem YF.tw {b : Nat} {P : Nat → Nat → Prop} {M M' : Mem} (h : YF P M M') (hP : ∀ a i, P a i → 28 ≤ a) : yTw b M M' := yTw.all (fun a h1 h2 => by funext i; exact h.2.2.2.1 a i (by omega) (fun z => by have := hP a i z; omega)) (fun a h1 h2 => h.2.2.2.2 a (by omega))
theorem YT.yf {n0 b : Nat} {T : TP} {P : Nat → Nat → Prop} {M M' : Mem} (h : YT n0 b T M) (t : YF P M M') (hP : ∀ a i, P a i → 28 ≤ a) : YT n0 b T M' := h.tw (t.tw hP) (by rw [t.2.2.1])
theorem tP28 {v : Nat} : ∀ a i, tP v a i → 28 ≤ a := fun a i z => by unfold tP at z; omega
theorem dP28 {v : Nat} : ∀ a i, dP v a i → 28 ≤ a := fun a i z => by unfold dP at z; omega
theorem lP28 {v : Nat} : ∀ a i, lP v a i → 28 ≤ a := fun a i z => by unfold lP tP dP at z; omega
/-- minute and palms of a layer -/
def Ly (v nc m : Nat) (pm : Nat → Int32 × Nat) (M : Mem) : Prop := gA M 28 v = nI m ∧ ∀ c, c < nc → gA M 29 (5 * v + c) = (pm c).1 ∧ gA M 30 (5 * v + c) = nI (pm c).2
def PsO (nt nc : Nat) (pm : Nat → Int32 × Nat) : Prop := ∀ c, c < nc → pOk nt (pm c)
theorem Ly.fr {v nc m : Nat} {pm : Nat → Int32 × Nat} {P : Nat → Nat → Prop} {M M' : Mem} (h : Ly v nc m pm M) (f : YF P M M') (hc : nc ≤ 5) (hP : ∀ a i, P a i → ¬ tP v a i) : Ly v nc m pm M' := ⟨(f.2.2.2.1 28 v (by decide) (fun z => hP _ _ z (by unfold tP; omega))).trans h.1, fun c h1 => by
  rw [f.2.2.2.1 29 _ (by decide) (fun z => hP _ _ z (by unfold tP; omega)), f.2.2.2.1 30 _ (by decide) (fun z => hP _ _ z (by unfold tP; omega))]
  exact h.2 c h1⟩
theorem Ly.pm {b v nc m c : Nat} {pm : Nat → Int32 × Nat} {M : Mem} (h : Ly v nc m pm M) (h13 : gI M 13 = nI b) (hv : v < 22) (hc : c < nc) : PmY b v c (pm c).1 (pm c).2 m M := ⟨h13, hv, h.1, (h.2 c hc).1, (h.2 c hc).2⟩
theorem yhr {n0 b v c m : Nat} {T : TP} {pm : Nat → Int32 × Nat} {M : Mem} (hT : YT n0 b T M) (hv : v < 22) (hL : Ly v T.nc m pm M) (hO : PsO T.nt T.nc pm) (hm : m ≤ 20000) (hc : c < T.nc) : T.hF c (pm c).1 (pm c).2 m ≤ 23 ∧ ∃ M', fX12_hour n0 (nI v) (nI c) M = some (nI (T.hF c (pm c).1 (pm c).2 m), M') ∧ VY2 M M' := by
  have h5 := hT.2.1.2.1
  have o := hO c hc
  obtain ⟨h1, h2, _⟩ := hT.1 M v c (pm c).1 (pm c).2 m yTw.r (hL.pm hT.2.2.2.1 hv hc) ⟨by omega, o.1, o.2, hm⟩
  exact ⟨h1, h2⟩
theorem ygoneN {n0 v c : Nat} {M : Mem} (hv : v < 22) (hc : c < 5) (h29 : gA M 29 (5 * v + c) = -1) : ∃ M', fX12_isGone n0 (nI v) (nI c) M = some (0, M') ∧ VY2 M M' := by
  refine ⟨yLay 0 (gA M 30 (5 * v + c)) (nI c) (gA M 28 v) 1 0 M, ?_, yLay_f⟩
  unfold fX12_isGone
  refine eq_b (ylayN hv hc h29) (eq_f (by rw [yIx]; exact nI_in (by omega) (by decide)) (eq_t ?_ rfl))
  rw [yLay_f.2.2.2.1 29 (by decide), yIx, nI_clamp (by omega)]
  exact h29
theorem yputs {n0 v c : Nat} {x : Int32} {M : Mem} (hv : v < 22) (hc : c < 5) : fX12_puts n0 (nI v) (nI c) x M = some (sA (sA M 29 (5 * v + c) x) 30 (5 * v + c) 0) := by
  have c1 : (nI (5 * v + c)).toNatClampNeg = 5 * v + c := nI_clamp (by omega)
  unfold fX12_puts
  simp only [yIx, c1]
  exact eq_f (nI_in (by omega) (by decide)) (eq_n (eq_f (nI_in (by omega) (by decide)) rfl))
abbrev tkL (n0 : Nat) : Nat → Int32 → Int32 → Mem → Option Mem := loopN (bX12_ticks_12 n0) (fun _ _ _ => none)
def pmAt (gF : GF) (m : Nat) (pm : Nat → Int32 × Nat) (c : Nat) : Nat → Int32 × Nat := fun j => if j < c then tk gF j m (pm j) else pm j
theorem ytk {n0 b v m : Nat} {T : TP} {pm : Nat → Int32 × Nat} (hv : v < 22) (hO : PsO T.nt T.nc pm) (hm : m ≤ 20000) : ∀ w c M, c ≤ T.nc → T.nc < w + c → YT n0 b T M → Ly v T.nc m (pmAt T.gF m pm c) M →
    ∃ M', tkL n0 w (nI v) (nI c) M = some M' ∧ Ly v T.nc m (fun j => tk T.gF j m (pm j)) M' ∧ YF (tP v) M M'
  | 0, c, M, hc, hw, _, _ => by omega
  | w + 1, c, M, hc, hw, hT, hL => by
    show ∃ M', bX12_ticks_12 n0 (tkL n0 w) (nI v) (nI c) M = _ ∧ _
    have h5 := hT.2.1.2.1
    have hb := hT.2.2.1
    have h13 := hT.2.2.2.1
    have cb : (nI b).toNatClampNeg = b := nI_clamp (by omega)
    have q5 : gA M 5 (gI M 13).toNatClampNeg = nI T.nc := by rw [h13, cb]; exact hT.2.2.2.2.2.1
    have o13 : ¬ oob (gI M 13) 2 := by rw [h13]; exact nI_in (by omega) (by decide)
    by_cases g : c = T.nc
    · refine ⟨M, ?_, ⟨hL.1, fun j hj => ?_⟩, YF.r⟩
      · unfold bX12_ticks_12
        exact eq_f o13 (eq_t (by rw [q5, g]; exact Int32.le_refl _) rfl)
      · have := hL.2 j hj
        unfold pmAt at this
        rw [if_pos (by omega)] at this
        exact this
    · have c5 : c < 5 := by omega
      have hcn : c < T.nc := by omega
      have pc : pmAt T.gF m pm c c = pm c := if_neg (by omega)
      obtain ⟨l1, l2⟩ := hL.2 c hcn
      rw [pc] at l1 l2
      have ok := hO c hcn
      have ok2 := ok.2
      have c1 : (nI (5 * v + c)).toNatClampNeg = 5 * v + c := nI_clamp (by omega)
      have oc : ¬ oob (nI (5 * v + c)) 110 := nI_in (by omega) (by decide)
      -- one minute longer
      have s1 : ∀ r, fX12_ticks_55 n0 (tkL n0 w) (nI v) (nI c) (sA M 30 (5 * v + c) (nI (min 999 ((pm c).2 + 1)))) = r → bX12_ticks_12 n0 (tkL n0 w) (nI v) (nI c) M = r := fun r hr => by
        unfold bX12_ticks_12
        refine eq_f o13 (eq_f (by rw [q5]; exact nI_ge hcn (by omega)) ?_)
        simp only [yIx, c1, l2]
        refine eq_f oc ?_
        by_cases g9 : 999 ≤ (pm c).2
        · refine eq_t (nI_le (a := 999) g9 (by omega)) ?_
          have e : sA M 30 (5 * v + c) (nI (min 999 ((pm c).2 + 1))) = M := by
            rw [show min 999 ((pm c).2 + 1) = (pm c).2 by omega]
            obtain ⟨a1, a2, a3⟩ := M
            show (a1, va_up a2 30 (upd (a2 30) (5 * v + c) (nI (pm c).2)), a3) = (a1, a2, a3)
            have : va_up a2 30 (upd (a2 30) (5 * v + c) (nI (pm c).2)) = a2 := by
              funext j i
              unfold va_up upd
              by_cases h : j = 30
              · rw [if_pos h, h]
                by_cases h2 : i = 5 * v + c
                · rw [if_pos h2, h2]; exact l2.symm
                · rw [if_neg h2]
              · rw [if_neg h]
            rw [this]
          rw [e] at hr
          exact hr
        · refine eq_f (fun z => g9 ((nI_leI (a := 999) (by omega) (by omega)).mp z)) (eq_f oc (eq_f oc ?_))
          rw [show nI (pm c).2 + 1 = nI ((pm c).2 + 1) from nI_add _ 1, show (pm c).2 + 1 = min 999 ((pm c).2 + 1) by omega]
          exact hr
      have hM1 : ∃ M1, M1 = sA M 30 (5 * v + c) (nI (min 999 ((pm c).2 + 1))) := ⟨_, rfl⟩
      obtain ⟨M1, eM1⟩ := hM1
      rw [← eM1] at s1
      have f1 : YF (tP v) M M1 := by rw [eM1]; exact YF.r.a (by unfold tP; omega)
      have a29 : gA M1 29 (5 * v + c) = (pm c).1 := by rw [eM1, gA_sA_ne (by decide)]; exact l1
      have a30 : gA M1 30 (5 * v + c) = nI (min 999 ((pm c).2 + 1)) := by rw [eM1, gA_sA, if_pos rfl, if_pos rfl]
      have a28 : gA M1 28 v = nI m := by rw [eM1, gA_sA_ne (by decide)]; exact hL.1
      have T1 := hT.yf f1 tP28
      have oth : ∀ j, j < T.nc → ¬ j = c → gA M1 29 (5 * v + j) = (pmAt T.gF m pm c j).1 ∧ gA M1 30 (5 * v + j) = nI (pmAt T.gF m pm c j).2 := fun j hj hne => by
        rw [eM1, gA_sA_ne (by decide), gA_sA, if_pos rfl, if_neg (by omega)]
        exact hL.2 j hj
      have fin : ∀ M2, YF (tP v) M1 M2 → gA M2 28 v = nI m → gA M2 29 (5 * v + c) = (tk T.gF c m (pm c)).1 → gA M2 30 (5 * v + c) = nI (tk T.gF c m (pm c)).2 → (∀ j, ¬ j = c → gA M2 29 (5 * v + j) = gA M1 29 (5 * v + j) ∧ gA M2 30 (5 * v + j) = gA M1 30 (5 * v + j)) → fX12_ticks_55 n0 (tkL n0 w) (nI v) (nI c) M1 = tkL n0 w (nI v) (nI (c + 1)) M2 → ∃ M', bX12_ticks_12 n0 (tkL n0 w) (nI v) (nI c) M = some M' ∧ Ly v T.nc m (fun j => tk T.gF j m (pm j)) M' ∧ YF (tP v) M M' := fun M2 b1 b2 b3 b4 b5 b6 => by
        obtain ⟨M', d1, d2, d3⟩ := ytk hv hO hm w (c + 1) M2 (by omega) (by omega) (T1.yf b1 tP28) ⟨b2, fun j hj => by
          by_cases h : j = c
          · rw [h, b3, b4]
            unfold pmAt
            rw [if_pos (by omega)]
            exact ⟨rfl, rfl⟩
          · rw [(b5 j h).1, (b5 j h).2, (oth j hj h).1, (oth j hj h).2]
            unfold pmAt
            by_cases h2 : j < c
            · rw [if_pos h2, if_pos (by omega)]; exact ⟨rfl, rfl⟩
            · rw [if_neg h2, if_neg (by omega)]; exact ⟨rfl, rfl⟩⟩
        exact ⟨M', s1 _ (b6.trans d1), d2, f1.tr (b1.tr d3)⟩
      have s2 : ∀ (M2 : Mem), fX12_ticks_71 n0 (tkL n0 w) (nI v) (nI c) M2 = tkL n0 w (nI v) (nI (c + 1)) M2 := fun M2 => by
        unfold fX12_ticks_71
        rw [show nI c + 1 = nI (c + 1) from nI_add c 1]
      by_cases hne : (pm c).1 = -1
      · obtain ⟨M2, e1, e2⟩ := ygoneN (n0 := n0) hv c5 (a29.trans hne)
        have tkv : tk T.gF c m (pm c) = ((pm c).1, min 999 ((pm c).2 + 1)) := if_neg (fun z => z.1 hne)
        refine fin M2 e2.y (by rw [e2.2.2.2.1 28 (by decide)]; exact a28) (by rw [e2.2.2.2.1 29 (by decide), tkv]; exact a29) (by rw [e2.2.2.2.1 30 (by decide), tkv]; exact a30) (fun j _ => by rw [e2.2.2.2.1 29 (by decide), e2.2.2.2.1 30 (by decide)]; exact ⟨rfl, rfl⟩) ?_
        unfold fX12_ticks_55
        exact eq_b e1 (eq_t rfl (s2 M2))
      · obtain ⟨M2, e1, e2⟩ := (T1.1 M1 v c (pm c).1 (min 999 ((pm c).2 + 1)) m yTw.r ⟨T1.2.2.2.1, hv, a28, a29, a30⟩ ⟨c5, ok.1, Nat.min_le_left _ _, hm⟩).2.2 hne
        by_cases gg : T.gF c (pm c).1 (min 999 ((pm c).2 + 1)) m = true
        · have tkv : tk T.gF c m (pm c) = (-1, 0) := if_pos ⟨hne, gg⟩
          refine fin (sA (sA M2 29 (5 * v + c) (-1)) 30 (5 * v + c) 0) ((e2.y.a (by unfold tP; omega)).a (by unfold tP; omega)) (by rw [gA_sA_ne (by decide), gA_sA_ne (by decide), e2.2.2.2.1 28 (by decide)]; exact a28) (by rw [gA_sA_ne (by decide), gA_sA, if_pos rfl, if_pos rfl, tkv]) (by rw [gA_sA, if_pos rfl, if_pos rfl, tkv]; rfl) (fun j hj => ⟨by rw [gA_sA_ne (by decide), gA_sA, if_pos rfl, if_neg (by omega), e2.2.2.2.1 29 (by decide)], by rw [gA_sA, if_pos rfl, if_neg (by omega), gA_sA_ne (by decide), e2.2.2.2.1 30 (by decide)]⟩) ?_
          unfold fX12_ticks_55
          exact eq_b e1 (eq_f (show ¬ bI (T.gF c (pm c).1 (min 999 ((pm c).2 + 1)) m = true) = 0 by rw [bI_t gg]; decide) (eq_b (yputs hv c5) (s2 _)))
        · have tkv : tk T.gF c m (pm c) = ((pm c).1, min 999 ((pm c).2 + 1)) := if_neg (fun z => gg z.2)
          refine fin M2 e2.y (by rw [e2.2.2.2.1 28 (by decide)]; exact a28) (by rw [e2.2.2.2.1 29 (by decide), tkv]; exact a29) (by rw [e2.2.2.2.1 30 (by decide), tkv]; exact a30) (fun j _ => by rw [e2.2.2.2.1 29 (by decide), e2.2.2.2.1 30 (by decide)]; exact ⟨rfl, rfl⟩) ?_
          unfold fX12_ticks_55
          exact eq_b e1 (eq_t (show bI (T.gF c (pm c).1 (min 999 ((pm c).2 + 1)) m = true) = 0 from bI_f gg) (s2 M2))
theorem yticks {n0 b v m : Nat} {T : TP} {pm : Nat → Int32 × Nat} {M : Mem} (hn : 1700 ≤ n0) (hT : YT n0 b T M) (hv : v < 22) (hL : Ly v T.nc m pm M) (hO : PsO T.nt T.nc pm) (hm : m < 20000) : ∃ M', fX12_ticks n0 (nI v) M = some M' ∧ Ly v T.nc (m + 1) (fun j => tk T.gF j (m + 1) (pm j)) M' ∧ YF (tP v) M M' := by
  have h5 := hT.2.1.2.1
  have cv : (nI v).toNatClampNeg = v := nI_clamp (by omega)
  have f1 : YF (tP v) M (sA M 28 v (nI (m + 1))) := YF.r.a (by unfold tP; omega)
  obtain ⟨M', e1, e2, e3⟩ := ytk (b := b) (pm := pm) hv hO (show m + 1 ≤ 20000 by omega) n0 0 (sA M 28 v (nI (m + 1))) (by omega) (by omega) (hT.yf f1 tP28) ⟨by rw [gA_sA, if_pos rfl, if_pos rfl], fun c hc => by
    rw [gA_sA_ne (by decide), gA_sA_ne (by decide)]
    unfold pmAt
    rw [if_neg (by omega)]
    exact hL.2 c hc⟩
  refine ⟨M', ?_, e2, f1.tr e3⟩
  unfold fX12_ticks
  simp only [cv, hL.1]
  refine eq_f (nI_in hv (by decide)) (eq_f (nI_in hv (by decide)) (eq_e (v' := sA M 28 v (nI (m + 1))) (by rw [show nI m + 1 = nI (m + 1) from nI_add m 1]) e1))
