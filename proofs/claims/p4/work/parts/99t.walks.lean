/-! WAYS AND WALKS COME TO AN END -/
theorem lpC {σ ρ : Type} {L : Nat → Nat → σ → Option ρ} {F : σ → Option ρ} {n : Nat} {I : σ → Prop} (hs : ∀ w k s, k < n → I s → ∃ s', L (w + 1) k s = L w (k + 1) s' ∧ I s') (he : ∀ w s, I s → ∃ s', L (w + 1) n s = F s' ∧ I s') : ∀ w k s, k ≤ n → n < w + k → I s → ∃ s', L w k s = F s' ∧ I s'
  | 0, k, s, hk, hw, _ => by omega
  | w + 1, k, s, hk, hw, hI => by
    by_cases g : k = n
    · rw [g]; exact he w s hI
    · obtain ⟨s', e, h'⟩ := hs w k s (by omega) hI
      rw [e]
      exact lpC hs he w (k + 1) s' (by omega) (by omega) h'
theorem lpG {σ ρ : Type} {L : Nat → Nat → σ → Option ρ} {n : Nat} {I : σ → Prop} {Q : ρ → Prop} (hs : ∀ w k s, k < n → I s → (okP (L (w + 1) k s) Q ∨ ∃ s', L (w + 1) k s = L w (k + 1) s' ∧ I s')) (he : ∀ w s, I s → okP (L (w + 1) n s) Q) : ∀ w k s, k ≤ n → n < w + k → I s → okP (L w k s) Q
  | 0, k, s, hk, hw, _ => by omega
  | w + 1, k, s, hk, hw, hI => by
    by_cases g : k = n
    · rw [g]; exact he w s hI
    · rcases hs w k s (by omega) hI with h | ⟨s', e, h'⟩
      · exact h
      · rw [e]
        exact lpG hs he w (k + 1) s' (by omega) (by omega) h'
def CalN (n0 : Nat) (f g : Option (Int32 × Mem)) : Prop := ∃ r r' MX' MY', f = some (r, MX') ∧ g = some (r', MY') ∧ R n0 MX' MY'
theorem Cal.n {n0 : Nat} {f g : Option (Int32 × Mem)} (h : Cal n0 f g) : CalN n0 f g := by
  obtain ⟨r, MX', MY', h1, h2, h3⟩ := h
  exact ⟨r, r, MX', MY', h1, h2, h3⟩
theorem CalN.scr {n0 q b : Nat} {T : TP} {nr C m : Nat} {pm : Nat → Int32 × Nat} {s : Nat × List (Nat × Nat)} {MX MY : Mem} {f g : Option (Int32 × Mem)} (h : RR n0 q b T nr C m pm s MX MY) (e1 : okP f (fun z => XF scA MX z.2)) (e2 : okP g (fun z => YF scP MY z.2)) : CalN n0 f g := by
  obtain ⟨⟨r, X⟩, a1, a2⟩ := e1
  obtain ⟨⟨r', Y⟩, b1, b2⟩ := e2
  exact ⟨r, r', X, Y, a1, b1, q, b, T, nr, C, m, pm, s, h.scr a2 b2⟩
def XRd (q nc nr : Nat) (M : Mem) : Prop := gI M (128 * q + 8) = nI nr ∧ nr ≤ 10 ∧ ∀ k, k < nr → ∃ a c v, a < nc ∧ c < nc ∧ 1 ≤ v ∧ v ≤ 30 ∧ gA M (q + 6) k = nI a ∧ gA M (q + 7) k = nI c ∧ gA M (q + 8) k = nI v
theorem XRd.tw {q nc nr : Nat} {M M' : Mem} (h : XRd q nc nr M) (t : xTw q M M') : XRd q nc nr M' := ⟨(t.1 _ (by omega) (by omega)).trans h.1, h.2.1, fun k hk => by
  rw [t.2 _ (by omega) (by omega), t.2 _ (by omega) (by omega), t.2 _ (by omega) (by omega)]
  exact h.2.2 k hk⟩
theorem RT.rd {n0 q b : Nat} {T : TP} {nr C : Nat} {MX MY : Mem} (h : RT n0 q b T nr C MX MY) : XRd q T.nc nr MX := by
  obtain ⟨c1, c2, c3⟩ := h.2.2.2.2.2.1.2.2.2.2.1
  refine ⟨c1, c3.1, fun k hk => ?_⟩
  obtain ⟨a, c, v, a1, a2, _, a4, a5, a6, a7, a8⟩ := c3.2.1 k hk
  exact ⟨a, c, v, a1, a2, a4, a5, a6, a7, a8⟩
theorem scA31 : ∀ a, scA a → a < 31 ∨ 63 ≤ a := fun a z => by unfold scA at z; omega
/-- distances are numbers -/
def D19 (M : Mem) : Prop := ∀ c, c < 5 → ∃ d, d ≤ 1000000 ∧ gA M 19 c = nI d
def WyI (M0 M : Mem) : Prop := XF scA M0 M ∧ D19 M
theorem xshort {n0 a c v : Nat} {M0 M : Mem} (ha : a < 5) (hc : c < 5) (hv : v ≤ 30) (h : WyI M0 M) : ∃ M', fX10_shorten n0 (nI a) (nI c) (nI v) M = some M' ∧ WyI M0 M' := by
  have ca : (nI a).toNatClampNeg = a := nI_clamp (by omega)
  have cc : (nI c).toNatClampNeg = c := nI_clamp (by omega)
  obtain ⟨da, la, ea⟩ := h.2 a ha
  obtain ⟨dc, lc, ec⟩ := h.2 c hc
  refine ⟨sA M 19 c (nI (min dc (da + v))), ?_, h.1.a (by unfold scA; omega), fun j hj => ?_⟩
  · unfold fX10_shorten
    simp only [ca, cc, ea, ec, nI_add]
    rw [imin_nI (by omega) (by omega)]
    exact eq_f (nI_in hc (by decide)) (eq_f (nI_in ha (by decide)) (eq_f (nI_in hc (by decide)) rfl))
  · rw [gA_sA, if_pos rfl]
    by_cases z : j = c
    · rw [if_pos z]; exact ⟨_, by omega, rfl⟩
    · rw [if_neg z]; exact h.2 j hj
theorem xsteps {n0 q nr a c : Nat} {T : TP} {M : Mem} (hn : 1700 ≤ n0) (hT : XT n0 q T M) (hR : XRd q T.nc nr M) (ha : a < T.nc) (hc : c < T.nc) : okP (fX10_stepsOf n0 q (nI a) (nI c) M) (fun z => XF scA M z.2 ∧ (z.1 = -1 ∨ ∃ d, d < 1000000 ∧ z.1 = nI d)) := by
  obtain ⟨o1, o2, o3, _⟩ := hT.2.1
  have hq := hT.1.1
  have r10 := hR.2.1
  have tw : ∀ M', XF scA M M' → xTw q M M' := fun M' f => f.tw hq scA31
  -- one road after the other
  have l49 : ∀ (k37 : Int32 → Int32 → Mem → Option (Int32 × Mem)) (x4 : Int32) (M1 : Mem), WyI M M1 → ∃ M2, loopN (bX10_stepsOf_49 n0 q k37) (fun _ _ _ _ => none) n0 (nI c) x4 (nI 0) M1 = k37 (nI c) (x4 + 1) M2 ∧ WyI M M2 := fun k37 x4 M1 hI => by
    refine lpC (L := fun w k s => loopN (bX10_stepsOf_49 n0 q k37) (fun _ _ _ _ => none) w (nI c) x4 (nI k) s) (F := fun s => k37 (nI c) (x4 + 1) s) (n := nr) (I := WyI M) (fun w k s hk hs => ?_) (fun w s hs => ?_) n0 0 M1 (by omega) (by omega) hI
    · show ∃ s', bX10_stepsOf_49 n0 q k37 (loopN (bX10_stepsOf_49 n0 q k37) (fun _ _ _ _ => none) w) (nI c) x4 (nI k) s = _ ∧ _
      have Rs := hR.tw (tw s hs.1)
      obtain ⟨a', c', v, a1, a2, _, a4, a5, a6, a7⟩ := Rs.2.2 k hk
      have ck : (nI k).toNatClampNeg = k := nI_clamp (by omega)
      have ok : ¬ oob (nI k) 10 := nI_in (by omega) (by decide)
      obtain ⟨s1, e1, i1⟩ := xshort (n0 := n0) (show a' < 5 by omega) (show c' < 5 by omega) a4 hs
      have R1 := hR.tw (tw s1 i1.1)
      have t1 : gA s1 (q + 6) k = nI a' ∧ gA s1 (q + 7) k = nI c' ∧ gA s1 (q + 8) k = nI v := by
        have := (tw s1 i1.1)
        have h0 := tw s hs.1
        rw [this.2 _ (by omega) (by omega), this.2 _ (by omega) (by omega), this.2 _ (by omega) (by omega), ← h0.2 (q + 6) (by omega) (by omega), ← h0.2 (q + 7) (by omega) (by omega), ← h0.2 (q + 8) (by omega) (by omega)]
        exact ⟨a5, a6, a7⟩
      obtain ⟨s2, e2, i2⟩ := xshort (n0 := n0) (show c' < 5 by omega) (show a' < 5 by omega) a4 i1
      refine ⟨s2, ?_, i2⟩
      unfold bX10_stepsOf_49
      refine eq_f (by rw [Rs.1]; exact nI_ge hk (by omega)) (eq_f ok (eq_f ok (eq_f ok (eq_b (z := s1) (by rw [ck, a5, a6, a7]; exact e1) (eq_f ok (eq_f ok (eq_f ok (eq_b (z := s2) (by rw [ck, t1.1, t1.2.1, t1.2.2]; exact e2) ?_))))))))
      rw [show nI k + 1 = nI (k + 1) from nI_add k 1]
    · show ∃ s', bX10_stepsOf_49 n0 q k37 (loopN (bX10_stepsOf_49 n0 q k37) (fun _ _ _ _ => none) w) (nI c) x4 (nI nr) s = _ ∧ _
      have Rs := hR.tw (tw s hs.1)
      refine ⟨s, ?_, hs⟩
      unfold bX10_stepsOf_49
      exact eq_t (by rw [Rs.1]; exact Int32.le_refl _) rfl
  -- round after round
  have l37 : ∀ M1, WyI M M1 → okP (fX10_stepsOf_37 n0 q (nI c) 0 M1) (fun z => XF scA M z.2 ∧ (z.1 = -1 ∨ ∃ d, d < 1000000 ∧ z.1 = nI d)) := fun M1 hI => by
    refine lpG (L := fun w k s => loopN (bX10_stepsOf_37 n0 q) (fun _ _ _ => none) w (nI c) (nI k) s) (n := T.nc) (I := WyI M) (fun w k s hk hs => Or.inr ?_) (fun w s hs => ?_) n0 0 M1 (by omega) (by omega) hI
    · show ∃ s', bX10_stepsOf_37 n0 q (loopN (bX10_stepsOf_37 n0 q) (fun _ _ _ => none) w) (nI c) (nI k) s = _ ∧ _
      obtain ⟨s1, e1, i1⟩ := l49 (loopN (bX10_stepsOf_37 n0 q) (fun _ _ _ => none) w) (nI k) s hs
      refine ⟨s1, ?_, i1⟩
      unfold bX10_stepsOf_37
      have := (hT.tw (tw s hs.1)).2.2.1
      refine eq_f (by rw [this]; exact nI_ge hk (by omega)) (e1.trans ?_)
      rw [show nI k + 1 = nI (k + 1) from nI_add k 1]
      rfl
    · show okP (bX10_stepsOf_37 n0 q (loopN (bX10_stepsOf_37 n0 q) (fun _ _ _ => none) w) (nI c) (nI T.nc) s) _
      have Ts := (hT.tw (tw s hs.1)).2.2.1
      obtain ⟨d, d1, d2⟩ := hs.2 c (by omega)
      have cc : (nI c).toNatClampNeg = c := nI_clamp (by omega)
      unfold bX10_stepsOf_37
      refine okP_t (by rw [Ts]; exact Int32.le_refl _) (okP_be (xCot Ts (by omega) hc) (okP_f (show ¬ (1 : Int32) = 0 by decide) (okP_f (nI_in (by omega) (by decide)) (okP_ite (fun _ => okP_some ⟨hs.1, Or.inl rfl⟩) (fun z => okP_f (nI_in (by omega) (by decide)) (okP_some ⟨hs.1, Or.inr ⟨d, ?_, ?_⟩⟩))))))
      · rw [cc, d2] at z
        rcases Nat.lt_or_ge d 1000000 with y | y
        · exact y
        · exact absurd (nI_le (a := 1000000) y (by omega)) z
      · rw [cc, d2]
  -- the first row
  have l3 : ∀ w k M1, k ≤ 5 → 5 < w + k → XF scA M M1 → (∀ j, j < k → ∃ d, d ≤ 1000000 ∧ gA M1 19 j = nI d) → okP (loopN (bX10_stepsOf_3 n0 q) (fun _ _ _ _ => none) w (nI a) (nI c) (nI k) M1) (fun z => XF scA M z.2 ∧ (z.1 = -1 ∨ ∃ d, d < 1000000 ∧ z.1 = nI d)) := fun w => by
    induction w with
    | zero => intro k M1 hk hw _ _; omega
    | succ w ih =>
      intro k M1 hk hw hf hd
      show okP (bX10_stepsOf_3 n0 q (loopN (bX10_stepsOf_3 n0 q) (fun _ _ _ _ => none) w) (nI a) (nI c) (nI k) M1) _
      unfold bX10_stepsOf_3
      by_cases g : k = 5
      · exact okP_t (by rw [g]; decide) (l37 M1 ⟨hf, fun j hj => hd j (by omega)⟩)
      · have ck : (nI k).toNatClampNeg = k := nI_clamp (by omega)
        have st : ∀ d, d ≤ 1000000 → okP (fX10_stepsOf_27 n0 q (loopN (bX10_stepsOf_3 n0 q) (fun _ _ _ _ => none) w) (nI a) (nI c) (nI k) (nI k) (nI d) M1) (fun z => XF scA M z.2 ∧ (z.1 = -1 ∨ ∃ d, d < 1000000 ∧ z.1 = nI d)) := fun d hd2 => by
          unfold fX10_stepsOf_27
          refine okP_f (nI_in (by omega) (by decide)) (okP_bnd ?_)
          rw [ck, show nI k + 1 = nI (k + 1) from nI_add k 1]
          refine ih (k + 1) _ (by omega) (by omega) (hf.a (by unfold scA; omega)) (fun j hj => ?_)
          rw [gA_sA, if_pos rfl]
          by_cases z : j = k
          · rw [if_pos z]; exact ⟨d, hd2, rfl⟩
          · rw [if_neg z]; exact hd j (by omega)
        refine okP_f (nI_ge (b := 5) (by omega) (by decide)) (okP_ite (fun _ => st 0 (by omega)) (fun _ => st 1000000 (by omega)))
  exact l3 n0 0 M (by omega) (by omega) XF.r (fun j hj => by omega)
theorem y25Ix {b a c : Nat} : (25 : Int32) * nI b + (5 : Int32) * nI a + nI c = nI (25 * b + 5 * a + c) := by
  rw [show (25 : Int32) = nI 25 from rfl, nI_mul, show (5 : Int32) = nI 5 from rfl, nI_mul, nI_add, nI_add]
theorem yway {n0 q b : Nat} {T : TP} {nr C : Nat} {MX MY : Mem} (h : RT n0 q b T nr C MX MY) (x y : Int32) : ∃ r, fX12_way n0 x y MY = some (r, MY) := by
  have h13 := h.2.2.2.2.1.2.2.2.1
  have hb := h.2.2.2.2.1.2.2.1
  have o2 := h.2.2.2.1.2.1.2.1
  unfold fX12_way
  rcases isCo h x with ⟨a, ha, rfl, _, e2⟩ | ⟨_, _, e2⟩
  · rcases isCo h y with ⟨c, hc, rfl, _, e4⟩ | ⟨_, _, e4⟩
    · have ea : fX12_at n0 (gI MY 13) (nI a) (nI c) MY = some (nI (25 * b + 5 * a + c), MY) := by
        unfold fX12_at
        rw [h13, y25Ix]
      have oi : ¬ oob (nI (25 * b + 5 * a + c)) 50 := nI_in (by omega) (by decide)
      by_cases g : (100000000 : Int32) ≤ gA MY 9 (nI (25 * b + 5 * a + c)).toNatClampNeg
      · exact ⟨_, eq_b e2 (eq_f (show ¬ (1 : Int32) = 0 by decide) (eq_b e4 (eq_f (show ¬ (1 : Int32) = 0 by decide) (eq_b ea (eq_f oi (eq_t g rfl))))))⟩
      · exact ⟨_, eq_b e2 (eq_f (show ¬ (1 : Int32) = 0 by decide) (eq_b e4 (eq_f (show ¬ (1 : Int32) = 0 by decide) (eq_b ea (eq_f oi (eq_f g (eq_b ea (eq_f oi rfl))))))))⟩
    · exact ⟨_, eq_b e2 (eq_f (show ¬ (1 : Int32) = 0 by decide) (eq_b e4 (eq_t rfl rfl)))⟩
  · exact ⟨_, eq_b e2 (eq_t rfl rfl)⟩
theorem nWay {n0 : Nat} {x y : Int32} {MX MY : Mem} (hn : 1700 ≤ n0) (h : R n0 MX MY) : CalN n0 (fX11_way n0 x y MX) (fX12_way n0 x y MY) := by
  obtain ⟨q, b, T, nr, C, m, pm, s, h⟩ := h
  have h1 := h.1
  obtain ⟨r, er⟩ := yway h1 x y
  refine CalN.scr h ?_ ⟨_, er, YF.r⟩
  unfold fX11_way
  rcases isCo h1 x with ⟨a, ha, rfl, e1, _⟩ | ⟨_, e1, _⟩
  · rcases isCo h1 y with ⟨c, hc, rfl, e3, _⟩ | ⟨_, e3, _⟩
    · obtain ⟨⟨r, X⟩, a1, a2, _⟩ := xsteps (n0 := n0) hn h1.2.2.2.1 h1.rd ha hc
      exact ⟨_, eq_b e1 (eq_f (show ¬ (1 : Int32) = 0 by decide) (eq_b e3 (eq_f (show ¬ (1 : Int32) = 0 by decide) (eq_b (by rw [h1.2.1]; exact a1) rfl)))), a2⟩
    · exact ⟨_, eq_b e1 (eq_f (show ¬ (1 : Int32) = 0 by decide) (eq_b e3 (eq_t rfl rfl))), XF.r⟩
  · exact ⟨_, eq_b e1 (eq_t rfl rfl), XF.r⟩
theorem nArrive {n0 : Nat} {x y : Int32} {MX MY : Mem} (hn : 1700 ≤ n0) (h : R n0 MX MY) : CalN n0 (fX11_arrive n0 x y MX) (fX12_arrive n0 x y MY) := by
  have h0 := h
  obtain ⟨q, b, T, nr, C, m, pm, s, h⟩ := h
  obtain ⟨h1, h2, h3, h4, _⟩ := id h
  have hm := h2.1
  obtain ⟨o1, o2, o3, _⟩ := h1.2.2.2.1.2.1
  -- the reference: a way, then later
  have yA : okP (fX12_arrive n0 x y MY) (fun z => YF scP MY z.2) := by
    obtain ⟨r, er⟩ := yway h1 x y
    unfold fX12_arrive
    refine okP_be er (okP_ite (fun _ => okP_some YF.r) (fun _ => ?_))
    -- later comes to an end whatever is asked
    have yl : ∀ z, okP (fX12_later n0 y z MY) (fun u => YF scP MY u.2) := fun z => by
      unfold fX12_later
      rcases isCo h1 y with ⟨c, hc, rfl, _, e2⟩ | ⟨_, _, e2⟩
      · rcases yah (n0 := n0) (lo := 0) (hi := 60) z h4.1.1 hm (by decide) (by decide) with ⟨k, _, k2, k3, rfl, e⟩ | ⟨_, e⟩
        · obtain ⟨Y1, b1, b2, b3⟩ := ycopyD (n0 := n0) (v := 1) (u := 0) hn (by decide) (by decide) (by decide) o2 (by have := h2.2.2.l; omega) h4
          obtain ⟨Y2, c1, c2⟩ := ylat (n0 := n0) (b := b) (m := m) hn hc h2.2.1 k3 n0 0 Y1 s (by omega) (by omega) (h1.2.2.2.2.1.yf b3 lP28) b2 h2.2.2
          exact ⟨_, eq_b e2 (eq_f (show ¬ (1 : Int32) = 0 by decide) (eq_b e (eq_f (show ¬ (1 : Int32) = 0 by decide) (eq_b b1 c1)))), lsc (b3.tr c2)⟩
        · exact ⟨_, eq_b e2 (eq_f (show ¬ (1 : Int32) = 0 by decide) (eq_b e (eq_t rfl rfl))), YF.r⟩
      · exact ⟨_, eq_b e2 (eq_t rfl rfl), YF.r⟩
    obtain ⟨⟨r', Y⟩, a1, a2⟩ := yl r
    exact ⟨_, eq_b a1 rfl, a2⟩
  refine CalN.scr h ?_ yA
  unfold fX11_arrive
  rcases isCo h1 x with ⟨a, ha, rfl, e1, _⟩ | ⟨_, e1, _⟩
  · rcases isCo h1 y with ⟨c, hc, rfl, e3, _⟩ | ⟨_, e3, _⟩
    · obtain ⟨⟨r, X⟩, a1, a2, a3⟩ := xsteps (n0 := n0) hn h1.2.2.2.1 h1.rd ha hc
      refine okP_be e1 (okP_f (show ¬ (1 : Int32) = 0 by decide) (okP_be e3 (okP_f (show ¬ (1 : Int32) = 0 by decide) (okP_be (z := (r, X)) (by rw [h1.2.1]; exact a1) ?_))))
      rcases a3 with a3 | ⟨d, d1, a3⟩
      · exact okP_t a3 (okP_some a2)
      · have er : r = nI d := a3
        subst er
        refine okP_f (nI_m1 (by omega)) (okP_ite (fun _ => okP_some a2) (fun g => ?_))
        have d60 : d ≤ 60 := by
          rcases Nat.lt_or_ge 60 d with y | y
          · exact absurd (nI_lt (a := 60) y (by omega)) g
          · exact y
        have TX := h1.2.2.2.1.xf a2 scA31
        have SX' := h3.fr a2 (fun a z y => by unfold scA at z; unfold stA at y; omega)
        have eb : fX11_isBeyond n0 (nI d) X = some (bI (9999 - m < d), X) := by
          unfold fX11_isBeyond
          rw [SX'.2.2.1, show (9999 : Int32) - nI m = nI (9999 - m) from nI_subN hm]
          by_cases z : d ≤ 9999 - m
          · rw [bI_f (by omega)]; exact eq_t (nI_le z (by omega)) rfl
          · rw [bI_t (by omega)]; exact eq_f (nI_ge (by omega) (by omega)) rfl
        refine okP_be eb ?_
        by_cases z : 9999 - m < d
        · exact okP_f (show ¬ bI (9999 - m < d) = 0 by rw [bI_t z]; decide) (okP_some a2)
        · obtain ⟨X1, b1, b2, b3⟩ := xfc (n0 := n0) (q1 := 26) (most := d) hn TX SX' h2.2.1 hc hm d60 (Or.inl rfl)
          exact okP_t (show bI (9999 - m < d) = 0 from bI_f z) (okP_be b1 (okP_f (nI_in (by omega) (by decide)) (okP_some (a2.tr (b3.wk (fun a y => by unfold scA; omega))))))
    · exact ⟨_, eq_b e1 (eq_f (show ¬ (1 : Int32) = 0 by decide) (eq_b e3 (eq_t rfl rfl))), XF.r⟩
  · exact ⟨_, eq_b e1 (eq_t rfl rfl), XF.r⟩
