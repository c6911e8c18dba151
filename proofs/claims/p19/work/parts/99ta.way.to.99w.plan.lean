section
/-! A WAY'S STEPS BY THE CLASS: their value -/
def XRdV (q nr : Nat) (A B V : Nat → Nat) (M : Mem) : Prop := gI M (128 * q + 8) = nI nr ∧ nr ≤ 10 ∧ ∀ k, k < nr → gA M (q + 6) k = nI (A k) ∧ gA M (q + 7) k = nI (B k) ∧ gA M (q + 8) k = nI (V k)
theorem XRdV.tw {q nr : Nat} {A B V : Nat → Nat} {M M' : Mem} (h : XRdV q nr A B V M) (t : xTw q M M') : XRdV q nr A B V M' := ⟨(t.1 _ (by omega) (by omega)).trans h.1, h.2.1, fun k hk => by
  rw [t.2 _ (by omega) (by omega), t.2 _ (by omega) (by omega), t.2 _ (by omega) (by omega)]
  exact h.2.2 k hk⟩
def DV (d : Nat → Nat) (M : Mem) : Prop := ∀ j, j < 5 → gA M 19 j = nI (d j)
theorem xshortV {n0 a c v : Nat} {d : Nat → Nat} {M0 M : Mem} (ha : a < 5) (hc : c < 5) (hv : v ≤ 30) (hf : XF scA M0 M) (hd : DV d M) (hl : ∀ j, j < 5 → d j ≤ 1000000) : ∃ M', fX10_shorten n0 (nI a) (nI c) (nI v) M = some M' ∧ XF scA M0 M' ∧ DV (relx d a c v) M' := by
  have ca : (nI a).toNatClampNeg = a := nI_clamp (by omega)
  have cc : (nI c).toNatClampNeg = c := nI_clamp (by omega)
  have la := hl a ha
  have lc := hl c hc
  refine ⟨sA M 19 c (nI (min (d c) (d a + v))), ?_, hf.a (by unfold scA; omega), fun j hj => ?_⟩
  · unfold fX10_shorten
    simp only [ca, cc, hd a ha, hd c hc, nI_add]
    rw [imin_nI (by omega) (by omega)]
    exact eq_f (nI_in hc (by decide)) (eq_f (nI_in ha (by decide)) (eq_f (nI_in hc (by decide)) rfl))
  · rw [gA_sA, if_pos rfl]
    unfold relx
    by_cases z : j = c
    · rw [if_pos z, if_pos z]
    · rw [if_neg z, if_neg z]; exact hd j hj
theorem xstepsV {n0 q nr a c : Nat} {T : TP} {A B V : Nat → Nat} {S F : Nat → Nat → Nat} {M : Mem} (hn : 1700 ≤ n0) (hT : XT n0 q T M) (hV : XRdV q nr A B V M) (hR : RdS T.nc nr A B V S) (hI : InvF S 5 F) (ha : a < T.nc) (hc : c < T.nc) : ∃ M', fX10_stepsOf n0 q (nI a) (nI c) M = some (if F a c < 100000000 then nI (F a c) else -1, M') ∧ XF scA M M' := by
  obtain ⟨o1, o2, o3, _⟩ := hT.2.1
  have hq := hT.1.1
  have r10 := hV.2.1
  have tw : ∀ M', XF scA M M' → xTw q M M' := fun M' f => f.tw hq scA31
  -- one road after the other
  have l49 : ∀ (k37 : Int32 → Int32 → Mem → Option (Int32 × Mem)) (x4 : Int32) (r w k : Nat) (M1 : Mem) (d : Nat → Nat), k ≤ nr → nr < w + k → XF scA M M1 → DV d M1 → LBd F a d → URd S F A B a T.nc r k d → d a = 0 → ∃ M2 d', loopN (bX10_stepsOf_49 n0 q k37) (fun _ _ _ _ => none) w (nI c) x4 (nI k) M1 = k37 (nI c) (x4 + 1) M2 ∧ XF scA M M2 ∧ DV d' M2 ∧ LBd F a d' ∧ URd S F A B a T.nc r nr d' ∧ d' a = 0 := fun k37 x4 r w => by
    induction w with
    | zero => intro k M1 d hk hw; omega
    | succ w ih =>
      intro k M1 d hk hw hf hd hL hU h0
      show ∃ M2 d', bX10_stepsOf_49 n0 q k37 (loopN (bX10_stepsOf_49 n0 q k37) (fun _ _ _ _ => none) w) (nI c) x4 (nI k) M1 = _ ∧ _
      have Rs := hV.tw (tw M1 hf)
      by_cases g : k = nr
      · subst g
        refine ⟨M1, d, ?_, hf, hd, hL, hU, h0⟩
        unfold bX10_stepsOf_49
        exact eq_t (by rw [Rs.1]; exact Int32.le_refl _) rfl
      · have hk' : k < nr := by omega
        obtain ⟨a1, a2, a3, a4, a5, a6⟩ := hR.1 k hk'
        obtain ⟨b1, b2, b3⟩ := Rs.2.2 k hk'
        have ck : (nI k).toNatClampNeg = k := nI_clamp (by omega)
        have ok : ¬ oob (nI k) 10 := nI_in (by omega) (by decide)
        obtain ⟨s1, e1, f1, d1⟩ := xshortV (n0 := n0) (show A k < 5 by omega) (show B k < 5 by omega) a4 hf hd (fun j hj => (hL j hj).2)
        have L1 : LBd F a (relx d (A k) (B k) (V k)) := by
          have := LBd.relx (u := A k) (v := B k) hL hI (by omega) (by omega) (by omega) (by omega)
          rw [a5] at this
          exact this
        obtain ⟨b4, b5, b6⟩ := (hV.tw (tw s1 f1)).2.2 k hk'
        obtain ⟨s2, e2, f2, d2⟩ := xshortV (n0 := n0) (show B k < 5 by omega) (show A k < 5 by omega) a4 f1 d1 (fun j hj => (L1 j hj).2)
        have L2 : LBd F a (relx (relx d (A k) (B k) (V k)) (B k) (A k) (V k)) := by
          have := LBd.relx (u := B k) (v := A k) L1 hI (by omega) (by omega) (by omega) (by omega)
          rw [a6] at this
          exact this
        have z2 : relx (relx d (A k) (B k) (V k)) (B k) (A k) (V k) a = 0 := by
          have u1 : relx (relx d (A k) (B k) (V k)) (B k) (A k) (V k) a ≤ relx d (A k) (B k) (V k) a := relx_le
          have u2 : relx d (A k) (B k) (V k) a ≤ d a := relx_le
          omega
        obtain ⟨M2, d', g1, g2⟩ := ih (k + 1) s2 _ (by omega) (by omega) f2 d2 L2 (hU.step hR hk') z2
        refine ⟨M2, d', ?_, g2⟩
        unfold bX10_stepsOf_49
        refine eq_f (by rw [Rs.1]; exact nI_ge hk' (by omega)) (eq_f ok (eq_f ok (eq_f ok (eq_b (z := s1) (by rw [ck, b1, b2, b3]; exact e1) (eq_f ok (eq_f ok (eq_f ok (eq_b (z := s2) (by rw [ck, b4, b5, b6]; exact e2) ?_))))))))
        rw [show nI k + 1 = nI (k + 1) from nI_add k 1]
        exact g1
  -- round after round
  have l37 : ∀ (w r : Nat) (M1 : Mem) (d : Nat → Nat), r ≤ T.nc → T.nc < w + r → XF scA M M1 → DV d M1 → LBd F a d → UBd F a T.nc r d → d a = 0 → ∃ M', loopN (bX10_stepsOf_37 n0 q) (fun _ _ _ => none) w (nI c) (nI r) M1 = some (if F a c < 100000000 then nI (F a c) else -1, M') ∧ XF scA M M' := fun w => by
    induction w with
    | zero => intro r M1 d hr hw; omega
    | succ w ih =>
      intro r M1 d hr hw hf hd hL hU h0
      show ∃ M', bX10_stepsOf_37 n0 q (loopN (bX10_stepsOf_37 n0 q) (fun _ _ _ => none) w) (nI c) (nI r) M1 = _ ∧ _
      have Ts := (hT.tw (tw M1 hf)).2.2.1
      by_cases g : r = T.nc
      · have cc : (nI c).toNatClampNeg = c := nI_clamp (by omega)
        have oc : ¬ oob (nI c) 5 := nI_in (by omega) (by decide)
        have lc := hL c (by omega)
        refine ⟨M1, ?_, hf⟩
        unfold bX10_stepsOf_37
        by_cases y : F a c < 100000000
        · have rc : rkF (F a) (F a c) T.nc < T.nc := rk_n (Nat.lt_irrefl _) T.nc hc
          have u1 := hU c hc y (by omega)
          have u2 := finF hR hI o2 ha T.nc c hc y (by omega)
          have ed : d c = F a c := by omega
          rw [if_pos y]
          refine eq_t (by rw [Ts, g]; exact Int32.le_refl _) (eq_b (xCot Ts (by omega) hc) (eq_f (show ¬ (1 : Int32) = 0 by decide) (eq_f oc (eq_f ?_ (eq_f oc ?_)))))
          · rw [cc, hd c (by omega), ed]
            exact nI_ge (b := 1000000) (by omega) (by decide)
          · rw [cc, hd c (by omega), ed]
        · have ed : d c = 1000000 := by omega
          rw [if_neg y]
          exact eq_t (by rw [Ts, g]; exact Int32.le_refl _) (eq_b (xCot Ts (by omega) hc) (eq_f (show ¬ (1 : Int32) = 0 by decide) (eq_f oc (eq_t (by rw [cc, hd c (by omega), ed]; decide) rfl))))
      · obtain ⟨M2, d', e1, e2, e3, e4, e5, e6⟩ := l49 (loopN (bX10_stepsOf_37 n0 q) (fun _ _ _ => none) w) (nI r) r n0 0 M1 d (by omega) (by omega) hf hd hL ⟨hU, fun j _ _ _ ⟨k', _, z, _⟩ => by omega⟩ h0
        obtain ⟨M', i1, i2⟩ := ih (r + 1) M2 d' (by omega) (by omega) e2 e3 e4 (e5.fin hR hI o2 ha e6) e6
        refine ⟨M', ?_, i2⟩
        unfold bX10_stepsOf_37
        refine eq_f (by rw [Ts]; exact nI_ge (by omega) (by omega)) (e1.trans ?_)
        rw [show nI r + 1 = nI (r + 1) from nI_add r 1]
        exact i1
  -- the first row
  have l3 : ∀ w k M1, k ≤ 5 → 5 < w + k → XF scA M M1 → (∀ j, j < k → gA M1 19 j = nI (if j = a then 0 else 1000000)) → ∃ M', loopN (bX10_stepsOf_3 n0 q) (fun _ _ _ _ => none) w (nI a) (nI c) (nI k) M1 = some (if F a c < 100000000 then nI (F a c) else -1, M') ∧ XF scA M M' := fun w => by
    induction w with
    | zero => intro k M1 hk hw; omega
    | succ w ih =>
      intro k M1 hk hw hf hd
      show ∃ M', bX10_stepsOf_3 n0 q (loopN (bX10_stepsOf_3 n0 q) (fun _ _ _ _ => none) w) (nI a) (nI c) (nI k) M1 = _ ∧ _
      by_cases g : k = 5
      · subst g
        have hU : UBd F a T.nc 0 (fun j => if j = a then 0 else 1000000) := fun j hj hjf hr => by
          dsimp only
          by_cases e : j = a
          · rw [if_pos e]; exact Nat.zero_le _
          · obtain ⟨u, u1, u2, u3⟩ := hI.2.2.2.2 a j (by omega) (by omega) (fun z => e z.symm) hjf
            have f0 := hI.1 a (by omega)
            have := rk_lt (g := F a) (y := F a j) (u := a) (by omega) T.nc ha
            omega
        have hL : LBd F a (fun j => if j = a then 0 else 1000000) := fun j hj => by
          dsimp only
          by_cases e : j = a
          · rw [if_pos e, e, hI.1 a (by omega)]; omega
          · rw [if_neg e]; omega
        obtain ⟨M', i1, i2⟩ := l37 n0 0 M1 (fun j => if j = a then 0 else 1000000) (by omega) (by omega) hf (fun j hj => hd j hj) hL hU (if_pos rfl)
        refine ⟨M', ?_, i2⟩
        unfold bX10_stepsOf_3
        exact eq_t (by decide) i1
      · have ck : (nI k).toNatClampNeg = k := nI_clamp (by omega)
        have st : ∀ d, d = (if k = a then 0 else 1000000) → ∃ M', fX10_stepsOf_27 n0 q (loopN (bX10_stepsOf_3 n0 q) (fun _ _ _ _ => none) w) (nI a) (nI c) (nI k) (nI k) (nI d) M1 = some (if F a c < 100000000 then nI (F a c) else -1, M') ∧ XF scA M M' := fun d ed => by
          obtain ⟨M', i1, i2⟩ := ih (k + 1) (sA M1 19 k (nI d)) (by omega) (by omega) (hf.a (by unfold scA; omega)) (fun j hj => by
            rw [gA_sA, if_pos rfl]
            by_cases z : j = k
            · rw [if_pos z, ed, z]
            · rw [if_neg z]; exact hd j (by omega))
          refine ⟨M', ?_, i2⟩
          unfold fX10_stepsOf_27
          refine eq_f (nI_in (by omega) (by decide)) (eq_e (v' := sA M1 19 k (nI d)) (by rw [ck]) ?_)
          rw [show nI k + 1 = nI (k + 1) from nI_add k 1]
          exact i1
        unfold bX10_stepsOf_3
        by_cases z : k = a
        · obtain ⟨M', i1, i2⟩ := st 0 (by rw [if_pos z])
          exact ⟨M', eq_f (nI_ge (b := 5) (by omega) (by decide)) (eq_t (congrArg nI z) i1), i2⟩
        · obtain ⟨M', i1, i2⟩ := st 1000000 (by rw [if_neg z])
          exact ⟨M', eq_f (nI_ge (b := 5) (by omega) (by decide)) (eq_f (fun y => z ((nI_eq (by omega) (by omega)).mp y)) i1), i2⟩
  exact l3 n0 0 M (by omega) (by omega) XF.r (fun j hj => by omega)
end
section
/-! WAYS AND ARRIVALS ON BOTH SIDES -/
theorem RT.far {n0 q b : Nat} {T : TP} {nr C : Nat} {MX MY : Mem} (h : RT n0 q b T nr C MX MY) (h0 : 0 < T.nc) : ∃ S F A B V, S8 b S MY ∧ F9 b F MY ∧ InvF S 5 F ∧ RdS T.nc nr A B V S ∧ XRdV q nr A B V MX := by
  obtain ⟨c1, c2, c3⟩ := h.2.2.2.2.2.1.2.2.2.2.1
  obtain ⟨S, F, h8, h9, hI⟩ := h.2.2.2.2.2.2.2.2 h0
  have o2 : T.nc ≤ 5 := h.2.2.2.1.2.1.2.1
  obtain ⟨A, eA⟩ : ∃ A : Nat → Nat, ∀ k, A k = (gA MX (q + 6) k).toNatClampNeg := ⟨_, fun _ => rfl⟩
  obtain ⟨B, eB⟩ : ∃ B : Nat → Nat, ∀ k, B k = (gA MX (q + 7) k).toNatClampNeg := ⟨_, fun _ => rfl⟩
  obtain ⟨V, eV⟩ : ∃ V : Nat → Nat, ∀ k, V k = (gA MX (q + 8) k).toNatClampNeg := ⟨_, fun _ => rfl⟩
  have ex : ∀ k, k < nr → A k < T.nc ∧ B k < T.nc ∧ 1 ≤ V k ∧ V k ≤ 30 ∧ gA MX (q + 6) k = nI (A k) ∧ gA MX (q + 7) k = nI (B k) ∧ gA MX (q + 8) k = nI (V k) := fun k hk => by
    obtain ⟨a, c, v, a1, a2, a3, a4, a5, a6, a7⟩ := h.rd.2.2 k hk
    have xa : A k = a := by rw [eA, a5, nI_clamp (by omega)]
    have xb : B k = c := by rw [eB, a6, nI_clamp (by omega)]
    have xv : V k = v := by rw [eV, a7, nI_clamp (by omega)]
    rw [xa, xb, xv]
    exact ⟨a1, a2, a3, a4, a5, a6, a7⟩
  have uq : ∀ k, k < nr → ∀ a c, a < 5 → c < 5 → Jn (gA MX (q + 6)) (gA MX (q + 7)) k a c → S a c = V k := fun k hk a c ha hc g => by
    obtain ⟨_, _, _, v30, _, _, x8⟩ := ex k hk
    obtain ⟨s1, s2⟩ := h8 a c ha hc
    rcases c3.2.2 a c ha hc with ⟨_, z⟩ | ⟨k', k1, k2, k3, k4⟩
    · exact absurd g (z k hk)
    · have e : k = k' := k4 k hk g
      have e2 : nI (S a c) = nI (V k) := s1.symm.trans ((show gA MY 8 (25 * b + (5 * a + c)) = gA MX (q + 8) k by rw [e]; exact k3).trans x8)
      exact (nI_eq (by omega) (by omega)).mp e2
  refine ⟨S, F, A, B, V, h8, h9, hI, ⟨fun k hk => ?_, fun u v hu hv hs => ?_⟩, c1, c3.1, fun k hk => (ex k hk).2.2.2.2⟩
  · obtain ⟨x1, x2, x3, x4, x5, x6, x7⟩ := ex k hk
    exact ⟨x1, x2, x3, x4, uq k hk _ _ (by omega) (by omega) (Or.inl ⟨x5, x6⟩), uq k hk _ _ (by omega) (by omega) (Or.inr ⟨x5, x6⟩)⟩
  · have s8 := h8 u v hu hv
    rcases c3.2.2 u v hu hv with ⟨z, _⟩ | ⟨k, k1, k2, _⟩
    · have e2 : nI (S u v) = nI 0 := s8.1.symm.trans z
      have := (nI_eq (by omega) (by omega)).mp e2
      omega
    · obtain ⟨x1, x2, _, _, x5, x6, _⟩ := ex k k1
      refine ⟨k, k1, ?_⟩
      rcases k2 with ⟨g1, g2⟩ | ⟨g1, g2⟩
      · exact Or.inl ⟨(nI_eq (by omega) (by omega)).mp (x5.symm.trans g1), (nI_eq (by omega) (by omega)).mp (x6.symm.trans g2)⟩
      · exact Or.inr ⟨(nI_eq (by omega) (by omega)).mp (x5.symm.trans g1), (nI_eq (by omega) (by omega)).mp (x6.symm.trans g2)⟩
/-- one way on both sides -/
theorem bway {n0 q b a c : Nat} {T : TP} {nr C : Nat} {MX MY : Mem} (hn : 1700 ≤ n0) (h : RT n0 q b T nr C MX MY) (ha : a < T.nc) (hc : c < T.nc) (e2 : fX12_isCorner n0 (nI a) MY = some (1, MY)) (e4 : fX12_isCorner n0 (nI c) MY = some (1, MY)) : ∃ r X, fX10_stepsOf n0 q (nI a) (nI c) MX = some (r, X) ∧ XF scA MX X ∧ (r = -1 ∨ ∃ d, d < 100000000 ∧ r = nI d) ∧ fX12_way n0 (nI a) (nI c) MY = some (r, MY) := by
  have h13 := h.2.2.2.2.1.2.2.2.1
  have hb := h.2.2.2.2.1.2.2.1
  have o2 := h.2.2.2.1.2.1.2.1
  obtain ⟨S, F, A, B, V, h8, h9, hI, hR, hV⟩ := h.far (by omega)
  obtain ⟨X, x1, x2⟩ := xstepsV (n0 := n0) hn h.2.2.2.1 hV hR hI ha hc
  have l8 := hI.2.1 a c (by omega) (by omega)
  have ea : fX12_at n0 (gI MY 13) (nI a) (nI c) MY = some (nI (25 * b + 5 * a + c), MY) := by
    unfold fX12_at
    rw [h13, y25Ix]
  have oi : ¬ oob (nI (25 * b + 5 * a + c)) 50 := nI_in (by omega) (by decide)
  have v9 : gA MY 9 (nI (25 * b + 5 * a + c)).toNatClampNeg = nI (F a c) := by
    rw [nI_clamp (by omega), Nat.add_assoc]
    exact h9 a c (by omega) (by omega)
  refine ⟨_, X, x1, x2, ?_, ?_⟩
  · by_cases g : F a c < 100000000
    · rw [if_pos g]; exact Or.inr ⟨F a c, g, rfl⟩
    · rw [if_neg g]; exact Or.inl rfl
  · unfold fX12_way
    by_cases g : F a c < 100000000
    · rw [if_pos g]
      refine eq_b e2 (eq_f (show ¬ (1 : Int32) = 0 by decide) (eq_b e4 (eq_f (show ¬ (1 : Int32) = 0 by decide) (eq_b ea (eq_f oi (eq_f ?_ (eq_b ea (eq_f oi ?_))))))))
      · rw [v9]
        exact nI_ge (b := 100000000) g (by decide)
      · rw [v9]
    · rw [if_neg g]
      refine eq_b e2 (eq_f (show ¬ (1 : Int32) = 0 by decide) (eq_b e4 (eq_f (show ¬ (1 : Int32) = 0 by decide) (eq_b ea (eq_f oi (eq_t ?_ rfl))))))
      rw [v9]
      exact nI_le (a := 100000000) (by omega) (by omega)
theorem cWay {n0 : Nat} {x y : Int32} {MX MY : Mem} (hn : 1700 ≤ n0) (h : R n0 MX MY) : Cal n0 (fX11_way n0 x y MX) (fX12_way n0 x y MY) := by
  obtain ⟨q, b, T, nr, C, m, pm, s, h⟩ := h
  have h1 := h.1
  rcases isCo h1 x with ⟨a, ha, rfl, e1, e2⟩ | ⟨_, e1, e2⟩
  · rcases isCo h1 y with ⟨c, hc, rfl, e3, e4⟩ | ⟨_, e3, e4⟩
    · obtain ⟨r, X, x1, x2, _, y1⟩ := bway hn h1 ha hc e2 e4
      refine Cal.scr h ?_ y1 x2 YF.r
      unfold fX11_way
      exact eq_b e1 (eq_f (show ¬ (1 : Int32) = 0 by decide) (eq_b e3 (eq_f (show ¬ (1 : Int32) = 0 by decide) (eq_b (by rw [h1.2.1]; exact x1) rfl))))
    · refine Cal.scr (r := -1) (MX' := MX) (MY' := MY) h ?_ ?_ XF.r YF.r
      · unfold fX11_way
        exact eq_b e1 (eq_f (show ¬ (1 : Int32) = 0 by decide) (eq_b e3 (eq_t rfl rfl)))
      · unfold fX12_way
        exact eq_b e2 (eq_f (show ¬ (1 : Int32) = 0 by decide) (eq_b e4 (eq_t rfl rfl)))
  · refine Cal.scr (r := -1) (MX' := MX) (MY' := MY) h ?_ ?_ XF.r YF.r
    · unfold fX11_way
      exact eq_b e1 (eq_t rfl rfl)
    · unfold fX12_way
      exact eq_b e2 (eq_t rfl rfl)
theorem cArrive {n0 : Nat} {x y : Int32} {MX MY : Mem} (hn : 1700 ≤ n0) (h : R n0 MX MY) : Cal n0 (fX11_arrive n0 x y MX) (fX12_arrive n0 x y MY) := by
  obtain ⟨q, b, T, nr, C, m, pm, s, h⟩ := h
  have h1 := h.1
  rcases isCo h1 x with ⟨a, ha, rfl, e1, e2⟩ | ⟨_, e1, e2⟩
  · rcases isCo h1 y with ⟨c, hc, rfl, e3, e4⟩ | ⟨_, e3, e4⟩
    · obtain ⟨r, X, x1, x2, x3, y1⟩ := bway hn h1 ha hc e2 e4
      rcases x3 with rfl | ⟨d, d1, rfl⟩
      · refine Cal.scr (r := -1) (MX' := X) (MY' := MY) h ?_ ?_ x2 YF.r
        · unfold fX11_arrive
          exact eq_b e1 (eq_f (show ¬ (1 : Int32) = 0 by decide) (eq_b e3 (eq_f (show ¬ (1 : Int32) = 0 by decide) (eq_b (z := (-1, X)) (by rw [h1.2.1]; exact x1) (eq_t rfl rfl)))))
        · unfold fX12_arrive
          exact eq_b y1 (eq_t rfl rfl)
      · have hs := h.scr x2 (YF.r (P := scP) (M := MY))
        obtain ⟨r', MX', MY', l1, l2, l3⟩ := cLater (x := nI c) (y := nI d) hn ⟨q, b, T, nr, C, m, pm, s, hs⟩
        have e5 : fX9_isCorner n0 (gR X 1) (nI c) X = some (1, X) := by
          rw [hs.1.2.1]
          exact xCot hs.1.2.2.2.1.2.2.1 (by have := hs.1.2.2.2.1.2.1.2.1; omega) hc
        refine ⟨r', MX', MY', ?_, ?_, l3⟩
        · have t : fX11_later n0 (nI c) (nI d) X = (if (60 : Int32) < nI d then some ((-1 : Int32), X) else (fX11_isBeyond n0 (nI d) X).bind fun z23 => if z23.1 = 0 then (fX11_foresee n0 26 (nI c) (nI d) z23.2).bind fun z38 => if oob (nI d) 61 then none else some ((gA z38.2 26 (Int32.toNatClampNeg (nI d))), z38.2) else some ((-1 : Int32), z23.2)) := by
            unfold fX11_later
            exact eq_b e5 (eq_f (show ¬ (1 : Int32) = 0 by decide) (eq_f (nI_nn (by omega)) rfl))
          rw [t] at l1
          unfold fX11_arrive
          exact eq_b e1 (eq_f (show ¬ (1 : Int32) = 0 by decide) (eq_b e3 (eq_f (show ¬ (1 : Int32) = 0 by decide) (eq_b (z := (nI d, X)) (by rw [h1.2.1]; exact x1) (eq_f (nI_m1 (by omega)) l1)))))
        · unfold fX12_arrive
          exact eq_b y1 (eq_f (nI_m1 (by omega)) (eq_b l2 rfl))
    · refine Cal.scr (r := -1) (MX' := MX) (MY' := MY) h ?_ ?_ XF.r YF.r
      · unfold fX11_arrive
        exact eq_b e1 (eq_f (show ¬ (1 : Int32) = 0 by decide) (eq_b e3 (eq_t rfl rfl)))
      · unfold fX12_arrive fX12_way
        exact eq_b (z := (-1, MY)) (eq_b e2 (eq_f (show ¬ (1 : Int32) = 0 by decide) (eq_b e4 (eq_t rfl rfl)))) (eq_t rfl rfl)
  · refine Cal.scr (r := -1) (MX' := MX) (MY' := MY) h ?_ ?_ XF.r YF.r
    · unfold fX11_arrive
      exact eq_b e1 (eq_t rfl rfl)
    · unfold fX12_arrive fX12_way
      exact eq_b (z := (-1, MY)) (eq_b e2 (eq_t rfl rfl)) (eq_t rfl rfl)
end
section
/-! EARLY COMES TO AN END -/
theorem xout {n0 q nr c : Nat} {T : TP} {M : Mem} (hn : 1700 ≤ n0) (hT : XT n0 q T M) (hR : XRd q T.nc nr M) (hc : c < T.nc) : okP (fX10_goOutFrom n0 q (nI c) M) (fun M' => XF scA M M') := by
  have hq := hT.1.1
  have r10 := hR.2.1
  have tw : ∀ M', XF scA M M' → xTw q M M' := fun M' f => f.tw hq scA31
  have l27 : ∀ (k11 : Int32 → Mem → Option Mem) (k : Nat) (M1 : Mem), k ≤ 60 → XF scA M M1 → ∃ M2, loopN (bX10_goOutFrom_27 n0 q k11) (fun _ _ _ => none) n0 (nI k) (nI 0) M1 = k11 (nI (k + 1)) M2 ∧ XF scA M M2 := fun k11 k M1 hk hI => by
    refine lpC (L := fun w r s => loopN (bX10_goOutFrom_27 n0 q k11) (fun _ _ _ => none) w (nI k) (nI r) s) (F := fun s => k11 (nI (k + 1)) s) (n := nr) (I := XF scA M) (fun w r s hr hs => ?_) (fun w s hs => ?_) n0 0 M1 (by omega) (by omega) hI
    · show ∃ s', bX10_goOutFrom_27 n0 q k11 (loopN (bX10_goOutFrom_27 n0 q k11) (fun _ _ _ => none) w) (nI k) (nI r) s = _ ∧ _
      have Rs := hR.tw (tw s hs)
      obtain ⟨a', c', v, a1, a2, a3, a4, a5, a6, a7⟩ := Rs.2.2 r hr
      have cr : (nI r).toNatClampNeg = r := nI_clamp (by omega)
      have or : ¬ oob (nI r) 10 := nI_in (by omega) (by decide)
      have r1 : nI r + 1 = nI (r + 1) := nI_add r 1
      have st : ¬ gI s (128 * q + 8) ≤ nI r := by rw [Rs.1]; exact nI_ge hr (by omega)
      by_cases g : v ≤ k
      · have ac : fX10_across n0 q (nI r) (gA s 20 (nI (k - v)).toNatClampNeg) s = some ((((gA s 20 (nI (k - v)).toNatClampNeg >>> (nI a' &&& 31)) &&& (1 : Int32)) <<< (nI c' &&& 31)) ||| (((gA s 20 (nI (k - v)).toNatClampNeg >>> (nI c' &&& 31)) &&& (1 : Int32)) <<< (nI a' &&& 31)), s) := by
          unfold fX10_across
          exact eq_f or (eq_e (v' := nI a') (by rw [cr, a5]) (eq_f or (eq_e (v' := nI c') (by rw [cr, a6]) rfl)))
        refine ⟨?wt1, ?_, ?_⟩
        rotate_left
        · unfold bX10_goOutFrom_27 fX10_goOutFrom_74
          refine eq_f st (eq_f or (eq_e (v' := nI (k - v)) (by rw [cr, a7, nI_subN g]) (eq_f (nI_nn (by omega)) (eq_f (nI_in (by omega) (by decide)) (eq_f (nI_in (by omega) (by decide)) (eq_b ac (eq_f (nI_in (by omega) (by decide)) ?_)))))))
          rw [r1]
        · exact hs.a (by unfold scA; omega)
      · refine ⟨s, ?_, hs⟩
        unfold bX10_goOutFrom_27 fX10_goOutFrom_74
        refine eq_f st (eq_f or (eq_n (eq_t ?_ ?_)))
        · rw [cr, a7, i_lt, nz, nz, zI_sub, zI_toInt (by omega) (by omega), show (0 : Int32).toInt = 0 from rfl]
          omega
        · rw [r1]
    · refine ⟨s, ?_, hs⟩
      show bX10_goOutFrom_27 n0 q k11 (loopN (bX10_goOutFrom_27 n0 q k11) (fun _ _ _ => none) w) (nI k) (nI nr) s = _
      have Rs := hR.tw (tw s hs)
      unfold bX10_goOutFrom_27
      refine eq_t (by rw [Rs.1]; exact Int32.le_refl _) ?_
      rw [show nI k + 1 = nI (k + 1) from nI_add k 1]
  have l11 : ∀ M1, XF scA M M1 → okP (loopN (bX10_goOutFrom_11 n0 q) (fun _ _ => none) n0 (nI 1) M1) (fun M' => XF scA M M') := fun M1 hI => by
    refine lpG (L := fun w k s => loopN (bX10_goOutFrom_11 n0 q) (fun _ _ => none) w (nI k) s) (n := 61) (I := XF scA M) (fun w k s hk hs => Or.inr ?_) (fun w s hs => ?_) n0 1 M1 (by omega) (by omega) hI
    · show ∃ s', bX10_goOutFrom_11 n0 q (loopN (bX10_goOutFrom_11 n0 q) (fun _ _ => none) w) (nI k) s = _ ∧ _
      obtain ⟨s2, e2, i2⟩ := l27 (loopN (bX10_goOutFrom_11 n0 q) (fun _ _ => none) w) k (sA s 20 (nI k).toNatClampNeg 0) (by omega) (hs.a (by unfold scA; omega))
      refine ⟨s2, ?_, i2⟩
      unfold bX10_goOutFrom_11
      exact eq_f (fun z => by have := (nI_ltI (a := 60) (by decide) (by omega)).mp z; omega) (eq_f (nI_in (by omega) (by decide)) (eq_n e2))
    · show okP (bX10_goOutFrom_11 n0 q (loopN (bX10_goOutFrom_11 n0 q) (fun _ _ => none) w) (nI 61) s) _
      unfold bX10_goOutFrom_11
      exact okP_t (by decide) (okP_some hs)
  unfold fX10_goOutFrom
  exact okP_f (by decide) (okP_bnd (l11 _ (XF.r.a (by unfold scA; omega))))
theorem xearly {n0 q nr c m : Nat} {T : TP} {pm : Nat → Int32 × Nat} {s : Nat × List (Nat × Nat)} {M : Mem} (hn : 1700 ≤ n0) (hT : XT n0 q T M) (hS : SX q T.nc T.nd m pm s M) (hO : PsO T.nt T.nc pm) (hR : XRd q T.nc nr M) (hq1 : gR M 1 = q) (hc : c < T.nc) (hm : m ≤ 9999) : okP ((fX11_foresee n0 26 (nI c) (60 : Int32) M).bind fun z21 => (fX10_goOutFrom n0 (gR z21.2 1) (nI c) z21.2).bind fun z34 => fX11_early_39 n0 (nI c) z21.1 (1 : Int32) z34) (fun z => XF scA M z.2) := by
  obtain ⟨X1, a1, a2, a3⟩ := xfc (n0 := n0) (q1 := 26) (most := 60) hn hT hS hO hc hm (by decide) (Or.inl rfl)
  have f1 : XF scA M X1 := a3.wk (fun a y => by unfold scA; omega)
  have T1 := hT.xf f1 scA31
  obtain ⟨X2, b1, b2⟩ := xout (n0 := n0) hn T1 (hR.tw (f1.tw hT.1.1 scA31)) hc
  refine okP_be a1 (okP_be (z := X2) (by rw [show gR X1 1 = q by rw [f1.1]; exact hq1]; exact b1) ?_)
  have f2 := f1.tr b2
  show okP (loopN (bX11_early_39 n0) (fun _ _ _ _ => none) n0 (nI c) (nI (min 60 (9999 - m))) (nI 1) X2) (fun z => XF scA M z.2)
  refine lpG (L := fun w k s => loopN (bX11_early_39 n0) (fun _ _ _ _ => none) w (nI c) (nI (min 60 (9999 - m))) (nI k) s) (n := min 60 (9999 - m) + 1) (I := XF scA M) (fun w k s hk hs => ?_) (fun w s hs => ?_) n0 1 X2 (by omega) (by omega) f2
  · show okP (bX11_early_39 n0 (loopN (bX11_early_39 n0) (fun _ _ _ _ => none) w) (nI c) (nI (min 60 (9999 - m))) (nI k) s) _ ∨ ∃ s', bX11_early_39 n0 (loopN (bX11_early_39 n0) (fun _ _ _ _ => none) w) (nI c) (nI (min 60 (9999 - m))) (nI k) s = _ ∧ _
    have k1 : nI k + 1 = nI (k + 1) := nI_add k 1
    have st : ¬ nI (min 60 (9999 - m)) < nI k := fun z => by have := (nI_ltI (by omega) (by omega)).mp z; omega
    obtain ⟨r, er⟩ : ∃ r, fX10_canBeAt n0 (nI c) (nI k) s = some (r, s) := by
      unfold fX10_canBeAt
      by_cases z : ((gA s 20 (nI k).toNatClampNeg >>> (nI c &&& 31)) &&& (1 : Int32)) = 1
      · exact ⟨1, eq_f (nI_nn (by omega)) (eq_f (fun z => by have := (nI_ltI (a := 60) (by decide) (by omega)).mp z; omega) (eq_f (nI_in (by omega) (by decide)) (eq_t z rfl)))⟩
      · exact ⟨0, eq_f (nI_nn (by omega)) (eq_f (fun z => by have := (nI_ltI (a := 60) (by decide) (by omega)).mp z; omega) (eq_f (nI_in (by omega) (by decide)) (eq_f z rfl)))⟩
    unfold bX11_early_39 fX11_early_73
    rw [k1]
    by_cases z : r = 0
    · exact Or.inr ⟨s, eq_f st (eq_b er (eq_t z rfl)), hs⟩
    · by_cases y : gA s 26 (Int32.toNatClampNeg 0) ≤ gA s 26 (nI k).toNatClampNeg
      · exact Or.inr ⟨s, eq_f st (eq_b er (eq_f z (eq_f (nI_in (by omega) (by decide)) (eq_f (by decide) (eq_t y rfl))))), hs⟩
      · exact Or.inl ⟨_, eq_f st (eq_b er (eq_f z (eq_f (nI_in (by omega) (by decide)) (eq_f (by decide) (eq_f y rfl))))), hs⟩
  · show okP (bX11_early_39 n0 (loopN (bX11_early_39 n0) (fun _ _ _ _ => none) w) (nI c) (nI (min 60 (9999 - m))) (nI (min 60 (9999 - m) + 1)) s) _
    unfold bX11_early_39
    exact okP_t (nI_lt (by omega) (by omega)) (okP_some hs)
def YSt (b : Nat) (M : Mem) : Prop := ∀ a c, a < 5 → c < 5 → ∃ v, v ≤ 30 ∧ gA M 8 (25 * b + 5 * a + c) = nI v
theorem RT.st {n0 q b : Nat} {T : TP} {nr C : Nat} {MX MY : Mem} (h : RT n0 q b T nr C MX MY) : YSt b MY := fun a c ha hc => by
  obtain ⟨c1, c2, c3⟩ := h.2.2.2.2.2.1.2.2.2.2.1
  rw [Nat.add_assoc]
  rcases c3.2.2 a c ha hc with ⟨z, _⟩ | ⟨k, hk, _, z, _⟩
  · exact ⟨0, by omega, z⟩
  · obtain ⟨_, _, v, _, _, _, _, v2, _, _, v3⟩ := c3.2.1 k hk
    exact ⟨v, v2, (show gA MY 8 (25 * b + (5 * a + c)) = _ from z).trans v3⟩
def eP (a i : Nat) : Prop := lP 1 a i ∨ a = 38
theorem eP28 : ∀ a i, eP a i → 28 ≤ a := fun a i z => by unfold eP lP tP dP at z; omega
theorem ePn : ¬ eP 28 0 := fun z => by unfold eP lP tP dP at z; omega
theorem ePsc {M M' : Mem} (f : YF eP M M') : YF scP M M' := f.wk (fun a i z => z.elim (fun y => Or.inl y) (fun y => Or.inr (Or.inl (by omega))))
theorem le1 {M M' : Mem} (f : YF (lP 1) M M') : YF eP M M' := f.wk (fun _ _ z => Or.inl z)
theorem yearly {n0 b c m : Nat} {T : TP} {pm : Nat → Int32 × Nat} {s : Nat × List (Nat × Nat)} {M : Mem} (hn : 1700 ≤ n0) (hY : YT n0 b T M) (hL : LyD 0 T.nc m pm s M) (hO : PsO T.nt T.nc pm) (hs : sOk T.nd s) (hSt : YSt b M) (hc : c < T.nc) (hm : m ≤ 9999) : okP (fX12_early_21 n0 (nI c) (1 : Int32) M) (fun z => YF eP M z.2) := by
  obtain ⟨o1, o2, o3, _⟩ := hY.2.1
  have hb := hY.2.2.1
  have hl := hs.l
  have h13 : ∀ M', YF eP M M' → gI M' 13 = nI b := fun M' f => by rw [f.2.2.1]; exact hY.2.2.2.1
  have St : ∀ M', YF eP M M' → YSt b M' := fun M' f a c' ha hc' => by
    rw [f.gA (a := 8) (fun i z => by unfold eP lP tP dP at z; omega) (by decide)]
    exact hSt a c' ha hc'
  -- from one corner
  have l44 : ∀ (k21 : Int32 → Int32 → Mem → Option (Int32 × Mem)) (k36 : Int32 → Int32 → Int32 → Mem → Option (Int32 × Mem)) (n a : Nat) (M1 : Mem), 1 ≤ n → n ≤ 60 → a < 5 → YF eP M M1 → ∃ M2, loopN (bX12_early_44 n0 k21 k36) (fun _ _ _ _ _ => none) n0 (nI c) (nI n) (nI a) (nI 0) M1 = k36 (nI c) (nI n) (nI (a + 1)) M2 ∧ YF eP M M2 := fun k21 k36 n a M1 hn1 hn2 ha hI => by
    refine lpC (L := fun w k s => loopN (bX12_early_44 n0 k21 k36) (fun _ _ _ _ _ => none) w (nI c) (nI n) (nI a) (nI k) s) (F := fun s => k36 (nI c) (nI n) (nI (a + 1)) s) (n := 5) (I := YF eP M) (fun w k s hk hs => ?_) (fun w s hs => ?_) n0 0 M1 (by omega) (by omega) hI
    · show ∃ s', bX12_early_44 n0 k21 k36 (loopN (bX12_early_44 n0 k21 k36) (fun _ _ _ _ _ => none) w) (nI c) (nI n) (nI a) (nI k) s = _ ∧ _
      obtain ⟨v, v1, v2⟩ := St s hs a k ha hk
      have ea : fX12_at n0 (gI s 13) (nI a) (nI k) s = some (nI (25 * b + 5 * a + k), s) := by
        unfold fX12_at
        rw [h13 s hs, y25Ix]
      have oi : ¬ oob (nI (25 * b + 5 * a + k)) 50 := nI_in (by omega) (by decide)
      have on : ¬ oob (nI n) 61 := nI_in (by omega) (by decide)
      have cn : (nI n).toNatClampNeg = n := nI_clamp (by omega)
      have k1 : nI k + 1 = nI (k + 1) := nI_add k 1
      have ev : gA s 8 (nI (25 * b + 5 * a + k)).toNatClampNeg = nI v := by rw [nI_clamp (by omega)]; exact v2
      have st : ¬ (5 : Int32) ≤ nI k := nI_ge (b := 5) hk (by decide)
      have go : ∀ u2 u3, fX12_early_110 n0 k21 k36 (loopN (bX12_early_44 n0 k21 k36) (fun _ _ _ _ _ => none) w) (nI c) (nI n) (nI a) (nI k) (nI n) u2 u3 s = loopN (bX12_early_44 n0 k21 k36) (fun _ _ _ _ _ => none) w (nI c) (nI n) (nI a) (nI (k + 1)) (sA s 38 n (u2 ||| u3)) := fun u2 u3 => by
        unfold fX12_early_110
        refine eq_f on (eq_n ?_)
        rw [cn, k1]
      have fs : ∀ u, YF eP M (sA s 38 n u) := fun u => hs.a (Or.inr rfl)
      unfold bX12_early_44
      by_cases g1 : v = 0
      · refine ⟨?wt2, eq_f st (eq_b ea (eq_f oi (eq_e ev (eq_f on (eq_t (by rw [g1]; decide) ?_))))), ?_⟩
        rotate_left
        · unfold fX12_early_109
          exact go _ _
        · exact fs _
      · have g1' : ¬ nI v ≤ 0 := nI_ge (a := 0) (by omega) (by omega)
        by_cases g2 : n < v
        · refine ⟨?wt3, eq_f st (eq_b ea (eq_f oi (eq_e ev (eq_f on (eq_f g1' (eq_t (nI_lt g2 (by omega)) ?_)))))), ?_⟩
          rotate_left
          · unfold fX12_early_109
            exact go _ _
          · exact fs _
        · have g2' : ¬ nI n < nI v := fun z => g2 ((nI_ltI (by omega) (by omega)).mp z)
          have od : ¬ oob (nI n - nI v) 61 := by rw [nI_subN (by omega)]; exact nI_in (by omega) (by decide)
          obtain ⟨r, er⟩ : ∃ r, fX12_has2 n0 (gA s 38 (nI n - nI v).toNatClampNeg) (nI a) s = some (r, s) := by
            unfold fX12_has2
            by_cases z : ((gA s 38 (nI n - nI v).toNatClampNeg >>> (nI a &&& 31)) &&& (1 : Int32)) = 1
            · exact ⟨1, eq_t z rfl⟩
            · exact ⟨0, eq_f z rfl⟩
          by_cases g3 : r = 0
          · refine ⟨?wt4, eq_f st (eq_b ea (eq_f oi (eq_e ev (eq_f on (eq_f g1' (eq_f g2' (eq_f od (eq_b er (eq_t g3 ?_))))))))), ?_⟩
            rotate_left
            · unfold fX12_early_109
              exact go _ _
            · exact fs _
          · refine ⟨?wt5, eq_f st (eq_b ea (eq_f oi (eq_e ev (eq_f on (eq_f g1' (eq_f g2' (eq_f od (eq_b er (eq_f g3 ?_))))))))), ?_⟩
            rotate_left
            · exact go _ _
            · exact fs _
    · refine ⟨s, ?_, hs⟩
      show bX12_early_44 n0 k21 k36 (loopN (bX12_early_44 n0 k21 k36) (fun _ _ _ _ _ => none) w) (nI c) (nI n) (nI a) (nI 5) s = _
      unfold bX12_early_44
      refine eq_t (by decide) ?_
      rw [show nI a + 1 = nI (a + 1) from nI_add a 1]
  -- one minute
  have l36 : ∀ (k21 : Int32 → Int32 → Mem → Option (Int32 × Mem)) (n : Nat) (M1 : Mem), 1 ≤ n → n ≤ 60 → YF eP M M1 → ∃ M2, loopN (bX12_early_36 n0 k21) (fun _ _ _ _ => none) n0 (nI c) (nI n) (nI 0) M1 = k21 (nI c) (nI (n + 1)) M2 ∧ YF eP M M2 := fun k21 n M1 hn1 hn2 hI => by
    refine lpC (L := fun w k s => loopN (bX12_early_36 n0 k21) (fun _ _ _ _ => none) w (nI c) (nI n) (nI k) s) (F := fun s => k21 (nI c) (nI (n + 1)) s) (n := 5) (I := YF eP M) (fun w k s hk hs => ?_) (fun w s hs => ?_) n0 0 M1 (by omega) (by omega) hI
    · show ∃ s', bX12_early_36 n0 k21 (loopN (bX12_early_36 n0 k21) (fun _ _ _ _ => none) w) (nI c) (nI n) (nI k) s = _ ∧ _
      obtain ⟨s2, e2, i2⟩ := l44 k21 (loopN (bX12_early_36 n0 k21) (fun _ _ _ _ => none) w) n k s hn1 hn2 hk hs
      refine ⟨s2, ?_, i2⟩
      unfold bX12_early_36
      exact eq_f (nI_ge (b := 5) hk (by decide)) e2
    · refine ⟨s, ?_, hs⟩
      show bX12_early_36 n0 k21 (loopN (bX12_early_36 n0 k21) (fun _ _ _ _ => none) w) (nI c) (nI n) (nI 5) s = _
      unfold bX12_early_36
      refine eq_t (by decide) ?_
      rw [show nI n + 1 = nI (n + 1) from nI_add n 1]
  -- minutes ahead
  have l145 : ∀ (x2 : Int32) w k M1, k ≤ min 60 (9999 - m) + 1 → 1 ≤ k → min 60 (9999 - m) + 1 < w + k → YF eP M M1 → LyD 1 T.nc (m + (k - 1)) (trP T m pm (k - 1)) s M1 → okP (loopN (bX12_early_145 n0) (fun _ _ _ _ => none) w (nI c) x2 (nI k) M1) (fun z => YF eP M z.2) := fun x2 w => by
    induction w with
    | zero => intro k M1 hk _ hw _ _; omega
    | succ w ih =>
      intro k M1 hk hk1 hw hI hL1
      show okP (bX12_early_145 n0 (loopN (bX12_early_145 n0) (fun _ _ _ _ => none) w) (nI c) x2 (nI k) M1) _
      have m28 : gA M1 28 0 = nI m := m28f hL.1.1 hI ePn
      have Y1 := hY.yf hI eP28
      unfold bX12_early_145 fX12_early_186
      rw [show nI k + 1 = nI (k + 1) from nI_add k 1]
      by_cases g : k = min 60 (9999 - m) + 1
      · exact okP_be (yahF (lo := 1) (hi := 60) m28 hm (by decide) (by decide) (by omega) (by omega)) (okP_t rfl (okP_some hI))
      · obtain ⟨j, rfl⟩ : ∃ j, k = j + 1 := ⟨k - 1, by omega⟩
        rw [Nat.add_sub_cancel] at hL1
        obtain ⟨M2, g1, g2, g3⟩ := ytickD (v := 1) hn Y1 (by decide) hL1 (trP_ok hO j) hs (by omega)
        have f2 := hI.tr (le1 g3)
        obtain ⟨r, er⟩ : ∃ r, fX12_has2 n0 (gA M2 38 (nI (j + 1)).toNatClampNeg) (nI c) M2 = some (r, M2) := by
          unfold fX12_has2
          by_cases z : ((gA M2 38 (nI (j + 1)).toNatClampNeg >>> (nI c &&& 31)) &&& (1 : Int32)) = 1
          · exact ⟨1, eq_t z rfl⟩
          · exact ⟨0, eq_f z rfl⟩
        refine okP_be (yahT (lo := 1) (hi := 60) m28 (by omega) (by omega) (by decide) (by omega)) (okP_f (show ¬ (1 : Int32) = 0 by decide) (okP_be g1 (okP_f (nI_in (by omega) (by decide)) (okP_be er (okP_ite (fun _ => ?_) (fun _ => ?_))))))
        · exact ih (j + 1 + 1) M2 (by omega) (by omega) (by omega) f2 g2
        · obtain ⟨_, M3, e1, e2⟩ := yhr (hY.yf f2 eP28) (v := 1) (by decide) g2.1 (trP_ok hO (j + 1)) (by omega) hc
          have f3 := f2.tr (e2.y : YF eP M2 M3)
          refine okP_be e1 (okP_ite (fun _ => ?_) (fun _ => okP_some f3))
          exact ih (j + 1 + 1) M3 (by omega) (by omega) (by omega) f3 (LyD.fr (P := fun _ _ => False) g2 e2.y o2 (by omega) (fun _ _ z => z.elim))
  refine lpG (L := fun w k s => loopN (bX12_early_21 n0) (fun _ _ _ => none) w (nI c) (nI (k + 1)) s) (n := 60) (I := YF eP M) (fun w k s' hk hs' => ?_) (fun w s' hs' => ?_) n0 0 M (by omega) (by omega) YF.r
  · show okP (bX12_early_21 n0 (loopN (bX12_early_21 n0) (fun _ _ _ => none) w) (nI c) (nI (k + 1)) s') _ ∨ ∃ s'', bX12_early_21 n0 (loopN (bX12_early_21 n0) (fun _ _ _ => none) w) (nI c) (nI (k + 1)) s' = _ ∧ _
    obtain ⟨s2, e2, i2⟩ := l36 (loopN (bX12_early_21 n0) (fun _ _ _ => none) w) (k + 1) (sA s' 38 (nI (k + 1)).toNatClampNeg 0) (by omega) (by omega) (hs'.a (Or.inr rfl))
    refine Or.inr ⟨s2, ?_, i2⟩
    unfold bX12_early_21
    exact eq_f (fun z => by have := (nI_ltI (a := 60) (by decide) (by omega)).mp z; omega) (eq_f (nI_in (by omega) (by decide)) (eq_n e2))
  · show okP (bX12_early_21 n0 (loopN (bX12_early_21 n0) (fun _ _ _ => none) w) (nI c) (nI (60 + 1)) s') _
    have Y1 := hY.yf hs' eP28
    have L1 : LyD 0 T.nc m pm s s' := hL.fr hs' o2 (by omega) (fun a i z y => by unfold eP lP tP dP at z; unfold lP tP dP at y; omega)
    obtain ⟨_, M2, e1, e2⟩ := yhr Y1 (v := 0) (by decide) L1.1 hO (by omega) hc
    have L2 : LyD 0 T.nc m pm s M2 := LyD.fr (P := fun _ _ => False) L1 e2.y o2 (by omega) (fun _ _ z => z.elim)
    obtain ⟨M3, b1, b2, b3⟩ := ycopyD (n0 := n0) (v := 1) (u := 0) hn (by decide) (by decide) (by decide) o2 (by omega) L2
    unfold bX12_early_21
    exact okP_t (by decide) (okP_be e1 (okP_be b1 (l145 _ n0 1 M3 (by omega) (by omega) (by omega) (hs'.tr ((e2.y : YF eP s' M2).tr (le1 b3))) b2)))
theorem nEarly {n0 : Nat} {x : Int32} {MX MY : Mem} (hn : 1700 ≤ n0) (h : R n0 MX MY) : CalN n0 (fX11_early n0 x MX) (fX12_early n0 x MY) := by
  obtain ⟨q, b, T, nr, C, m, pm, s, h⟩ := h
  obtain ⟨h1, h2, h3, h4, _⟩ := id h
  obtain ⟨o1, o2, o3, _⟩ := h1.2.2.2.1.2.1
  have hl := h2.2.2.l
  unfold fX11_early fX12_early
  rcases isCo h1 x with ⟨c, hc, rfl, e1, e2⟩ | ⟨_, e1, e2⟩
  · have f1 : YF eP MY (sA MY 38 (Int32.toNatClampNeg 0) ((1 : Int32) <<< (nI c &&& 31))) := YF.r.a (Or.inr rfl)
    obtain ⟨⟨r, Y⟩, a1, a2⟩ := yearly (n0 := n0) hn (h1.2.2.2.2.1.yf f1 eP28) (h4.fr f1 o2 (by omega) (fun a i z y => by unfold eP lP tP dP at z; unfold lP tP dP at y; omega)) h2.2.1 h2.2.2 (show YSt b (sA MY 38 (Int32.toNatClampNeg 0) ((1 : Int32) <<< (nI c &&& 31))) from fun a c' ha hc' => by rw [gA_sA_ne (by decide)]; exact h1.st a c' ha hc') hc h2.1
    refine CalN.scr h (okP_be e1 (okP_f (show ¬ (1 : Int32) = 0 by decide) (xearly hn h1.2.2.2.1 h3 h2.2.1 h1.rd h1.2.1 hc h2.1))) ⟨_, eq_b e2 (eq_f (show ¬ (1 : Int32) = 0 by decide) (eq_f (by decide) (eq_n a1))), ePsc (f1.tr a2)⟩
  · exact CalN.scr h ⟨_, eq_b e1 (eq_t rfl rfl), XF.r⟩ ⟨_, eq_b e2 (eq_t rfl rfl), YF.r⟩
end
section
/-! EARLY ON BOTH SIDES: the same sets of corners, minute by minute -/
theorem cl0 : Int32.toNatClampNeg (0 : Int32) = 0 := by decide
theorem hasB : ∀ e, e < 32 → ∀ i, i < 5 → ((((nI e >>> (nI i &&& 31)) &&& (1 : Int32)) = (1 : Int32)) ↔ e.testBit i = true) := by decide +kernel
theorem acrB : ∀ e, e < 32 → ∀ a, a < 5 → ∀ c, c < 5 → (((nI e >>> (nI a &&& 31)) &&& (1 : Int32)) <<< (nI c &&& 31)) = nI (if e.testBit a then 2 ^ c else 0) := by decide +kernel
def RcE (S : Nat → Nat → Nat) (c n : Nat) (e : Nat → Nat) : Prop := e 0 = 2 ^ c ∧ (∀ i, i < n → e i < 32) ∧ ∀ i, 1 ≤ i → i < n → ∀ j, j < 5 → ((e i).testBit j = true ↔ ∃ a, a < 5 ∧ 0 < S a j ∧ S a j ≤ i ∧ (e (i - S a j)).testBit a = true)
def exE (e : Nat → Nat) (n x : Nat) : Nat → Nat := fun i => if i = n then x else e i
theorem exE_n {e : Nat → Nat} {n x : Nat} : exE e n x n = x := if_pos rfl
theorem exE_ne {e : Nat → Nat} {n x i : Nat} (h : ¬ i = n) : exE e n x i = e i := if_neg h
theorem RcE.step {S : Nat → Nat → Nat} {c n x : Nat} {e : Nat → Nat} (h : RcE S c n e) (h1 : 1 ≤ n) (hx : x < 32) (hb : ∀ j, j < 5 → (x.testBit j = true ↔ ∃ a, a < 5 ∧ 0 < S a j ∧ S a j ≤ n ∧ (e (n - S a j)).testBit a = true)) : RcE S c (n + 1) (exE e n x) := by
  refine ⟨by rw [exE_ne (by omega)]; exact h.1, fun i hi => ?_, fun i i1 i2 j hj => ?_⟩
  · by_cases z : i = n
    · rw [z, exE_n]; exact hx
    · rw [exE_ne z]; exact h.2.1 i (by omega)
  · by_cases z : i = n
    · rw [z, exE_n, hb j hj]
      exact ⟨fun ⟨a, a1, a2, a3, a4⟩ => ⟨a, a1, a2, a3, by rw [exE_ne (by omega)]; exact a4⟩, fun ⟨a, a1, a2, a3, a4⟩ => ⟨a, a1, a2, a3, by rw [exE_ne (by omega)] at a4; exact a4⟩⟩
    · rw [exE_ne z, h.2.2 i i1 (by omega) j hj]
      exact ⟨fun ⟨a, a1, a2, a3, a4⟩ => ⟨a, a1, a2, a3, by rw [exE_ne (by omega)]; exact a4⟩, fun ⟨a, a1, a2, a3, a4⟩ => ⟨a, a1, a2, a3, by rw [exE_ne (by omega)] at a4; exact a4⟩⟩
theorem RcE.uq {S : Nat → Nat → Nat} {c n : Nat} {e e' : Nat → Nat} (h : RcE S c n e) (h' : RcE S c n e') : ∀ i, i < n → e i = e' i := by
  intro i
  induction i using Nat.strongRecOn with
  | ind i ih =>
    intro hi
    by_cases z : i = 0
    · rw [z, h.1, h'.1]
    · apply Nat.eq_of_testBit_eq
      intro j
      by_cases hj : j < 5
      · have k1 := h.2.2 i (by omega) hi j hj
        have k2 := h'.2.2 i (by omega) hi j hj
        have k3 : ((e i).testBit j = true ↔ (e' i).testBit j = true) := by
          rw [k1, k2]
          exact ⟨fun ⟨a, a1, a2, a3, a4⟩ => ⟨a, a1, a2, a3, by rw [← ih (i - S a j) (by omega) (by omega)]; exact a4⟩, fun ⟨a, a1, a2, a3, a4⟩ => ⟨a, a1, a2, a3, by rw [ih (i - S a j) (by omega) (by omega)]; exact a4⟩⟩
        exact Bool.eq_iff_iff.mpr k3
      · have p5 : 32 ≤ 2 ^ j := Nat.le_trans (show 32 ≤ 2 ^ 5 by decide) (Nat.pow_le_pow_right (by decide) (by omega))
        rw [Nat.testBit_lt_two_pow (Nat.lt_of_lt_of_le (h.2.1 i hi) p5), Nat.testBit_lt_two_pow (Nat.lt_of_lt_of_le (h'.2.1 i hi) p5)]
theorem bitP (b : Bool) (i : Nat) (hi : i < 5) : (if b then 2 ^ i else 0) < 32 := by
  cases b
  · show 0 < 32
    decide
  · show 2 ^ i < 2 ^ 5
    exact Nat.pow_lt_pow_right (by decide) hi
theorem bitT (b : Bool) (i j : Nat) : ((if b then 2 ^ i else 0).testBit j = true ↔ (b = true ∧ i = j)) := by
  cases b
  · show (Nat.testBit 0 j = true ↔ _)
    rw [Nat.zero_testBit]
    exact ⟨fun z => absurd z (by decide), fun z => absurd z.1 (by decide)⟩
  · show ((2 ^ i).testBit j = true ↔ _)
    rw [Nat.testBit_two_pow, decide_eq_true_iff]
    exact ⟨fun z => ⟨rfl, z⟩, fun z => z.2⟩
/-- roads of the class, one after the other, at minute k -/
def RdE (A B V e : Nat → Nat) (k r x : Nat) : Prop := x < 32 ∧ ∀ j, j < 5 → (x.testBit j = true ↔ ∃ r', r' < r ∧ V r' ≤ k ∧ ((B r' = j ∧ (e (k - V r')).testBit (A r') = true) ∨ (A r' = j ∧ (e (k - V r')).testBit (B r') = true)))
theorem RdE.z {A B V e : Nat → Nat} {k : Nat} : RdE A B V e k 0 0 := ⟨by decide, fun j _ => ⟨fun z => by rw [Nat.zero_testBit] at z; exact absurd z (by decide), fun ⟨r', h, _⟩ => by omega⟩⟩
theorem RdE.skip {A B V e : Nat → Nat} {k r x : Nat} (h : RdE A B V e k r x) (hv : ¬ V r ≤ k) : RdE A B V e k (r + 1) x := ⟨h.1, fun j hj => (h.2 j hj).trans ⟨fun ⟨r', h1, h2⟩ => ⟨r', by omega, h2⟩, fun ⟨r', h1, h2, h3⟩ => ⟨r', by
  by_cases g : r' = r
  · rw [g] at h2
    exact absurd h2 hv
  · omega, h2, h3⟩⟩⟩
theorem RdE.add {A B V e : Nat → Nat} {k r x : Nat} (h : RdE A B V e k r x) (hv : V r ≤ k) (ha : A r < 5) (hb : B r < 5) : RdE A B V e k (r + 1) (x ||| ((if (e (k - V r)).testBit (A r) then 2 ^ B r else 0) ||| (if (e (k - V r)).testBit (B r) then 2 ^ A r else 0))) := by
  refine ⟨Nat.or_lt_two_pow (n := 5) h.1 (Nat.or_lt_two_pow (n := 5) (bitP _ _ hb) (bitP _ _ ha)), fun j hj => ?_⟩
  rw [Nat.testBit_or, Nat.testBit_or, Bool.or_eq_true, Bool.or_eq_true, h.2 j hj, bitT, bitT]
  constructor
  · intro z
    rcases z with ⟨r', h1, h2, h3⟩ | ⟨g1, g2⟩ | ⟨g1, g2⟩
    · exact ⟨r', by omega, h2, h3⟩
    · exact ⟨r, by omega, hv, Or.inl ⟨g2, g1⟩⟩
    · exact ⟨r, by omega, hv, Or.inr ⟨g2, g1⟩⟩
  · intro ⟨r', h1, h2, h3⟩
    by_cases g : r' = r
    · rw [g] at h3
      rcases h3 with ⟨g1, g2⟩ | ⟨g1, g2⟩
      · exact Or.inr (Or.inl ⟨g2, g1⟩)
      · exact Or.inr (Or.inr ⟨g2, g1⟩)
    · exact Or.inl ⟨r', by omega, h2, h3⟩
theorem RdE.rc {A B V e : Nat → Nat} {S : Nat → Nat → Nat} {k nc nr x : Nat} (h : RdE A B V e k nr x) (hR : RdS nc nr A B V S) (h5 : nc ≤ 5) : ∀ j, j < 5 → (x.testBit j = true ↔ ∃ a, a < 5 ∧ 0 < S a j ∧ S a j ≤ k ∧ (e (k - S a j)).testBit a = true) := fun j hj => by
  rw [h.2 j hj]
  constructor
  · intro ⟨r, r1, r2, r3⟩
    obtain ⟨s1, s2, s3, s4, s5, s6⟩ := hR.1 r r1
    rcases r3 with ⟨g1, g2⟩ | ⟨g1, g2⟩
    · refine ⟨A r, by omega, ?_⟩
      rw [← g1, s5]
      exact ⟨by omega, r2, g2⟩
    · refine ⟨B r, by omega, ?_⟩
      rw [← g1, s6]
      exact ⟨by omega, r2, g2⟩
  · intro ⟨a, a1, a2, a3, a4⟩
    obtain ⟨r, r1, r2⟩ := hR.2 a j a1 hj a2
    obtain ⟨s1, s2, s3, s4, s5, s6⟩ := hR.1 r r1
    rcases r2 with ⟨g1, g2⟩ | ⟨g1, g2⟩
    · have ev : S a j = V r := by rw [← g1, ← g2]; exact s5
      rw [ev] at a3 a4
      exact ⟨r, r1, a3, Or.inl ⟨g2, by rw [g1]; exact a4⟩⟩
    · have ev : S a j = V r := by rw [← g1, ← g2]; exact s6
      rw [ev] at a3 a4
      exact ⟨r, r1, a3, Or.inr ⟨g1, by rw [g2]; exact a4⟩⟩
theorem xoutV {n0 q nr c : Nat} {T : TP} {A B V : Nat → Nat} {S : Nat → Nat → Nat} {M : Mem} (hn : 1700 ≤ n0) (hT : XT n0 q T M) (hV : XRdV q nr A B V M) (hR : RdS T.nc nr A B V S) (hc : c < T.nc) : ∃ M' e, fX10_goOutFrom n0 q (nI c) M = some M' ∧ XF (fun a => a = 20) M M' ∧ RcE S c 61 e ∧ ∀ i, i < 61 → gA M' 20 i = nI (e i) := by
  obtain ⟨o1, o2, o3, _⟩ := hT.2.1
  have hq := hT.1.1
  have r10 := hV.2.1
  have tw : ∀ M', XF (fun a => a = 20) M M' → xTw q M M' := fun M' f => f.tw hq (fun a (z : a = 20) => by omega)
  have l27 : ∀ (k11 : Int32 → Mem → Option Mem) (k : Nat) (e : Nat → Nat), 1 ≤ k → k ≤ 60 → (∀ i, i < k → e i < 32) → ∀ w r s x, r ≤ nr → nr < w + r → XF (fun a => a = 20) M s → (∀ i, i < k → gA s 20 i = nI (e i)) → gA s 20 k = nI x → RdE A B V e k r x → ∃ s' x', loopN (bX10_goOutFrom_27 n0 q k11) (fun _ _ _ => none) w (nI k) (nI r) s = k11 (nI (k + 1)) s' ∧ XF (fun a => a = 20) M s' ∧ (∀ i, i < k → gA s' 20 i = nI (e i)) ∧ gA s' 20 k = nI x' ∧ RdE A B V e k nr x' := fun k11 k e hk1 hk he w => by
    induction w with
    | zero => intro r s x hr hw; omega
    | succ w ih =>
      intro r s x hr hw hf hE hx hD
      show ∃ s' x', bX10_goOutFrom_27 n0 q k11 (loopN (bX10_goOutFrom_27 n0 q k11) (fun _ _ _ => none) w) (nI k) (nI r) s = _ ∧ _
      have Rs := hV.tw (tw s hf)
      by_cases g : r = nr
      · refine ⟨s, x, ?_, hf, hE, hx, by rw [← g]; exact hD⟩
        unfold bX10_goOutFrom_27
        refine eq_t (by rw [Rs.1, g]; exact Int32.le_refl _) ?_
        rw [show nI k + 1 = nI (k + 1) from nI_add k 1]
      · have hr' : r < nr := by omega
        obtain ⟨a1, a2, a3, a4, a5, a6⟩ := hR.1 r hr'
        obtain ⟨b1, b2, b3⟩ := Rs.2.2 r hr'
        have cr : (nI r).toNatClampNeg = r := nI_clamp (by omega)
        have ck : (nI k).toNatClampNeg = k := nI_clamp (by omega)
        have or : ¬ oob (nI r) 10 := nI_in (by omega) (by decide)
        have r1 : nI r + 1 = nI (r + 1) := nI_add r 1
        have st : ¬ gI s (128 * q + 8) ≤ nI r := by rw [Rs.1]; exact nI_ge hr' (by omega)
        by_cases g2 : V r ≤ k
        · have ev : gA s 20 (nI (k - V r)).toNatClampNeg = nI (e (k - V r)) := by rw [nI_clamp (by omega)]; exact hE _ (by omega)
          have l32 := he (k - V r) (by omega)
          have ac : fX10_across n0 q (nI r) (gA s 20 (nI (k - V r)).toNatClampNeg) s = some (nI ((if (e (k - V r)).testBit (A r) then 2 ^ B r else 0) ||| (if (e (k - V r)).testBit (B r) then 2 ^ A r else 0)), s) := by
            rw [ev]
            unfold fX10_across
            refine eq_f or (eq_e (v' := nI (A r)) (by rw [cr, b1]) (eq_f or (eq_e (v' := nI (B r)) (by rw [cr, b2]) ?_)))
            rw [acrB _ l32 (A r) (by omega) (B r) (by omega), acrB _ l32 (B r) (by omega) (A r) (by omega), nOr]
          obtain ⟨s', x', i1, i2⟩ := ih (r + 1) (sA s 20 k (nI (x ||| ((if (e (k - V r)).testBit (A r) then 2 ^ B r else 0) ||| (if (e (k - V r)).testBit (B r) then 2 ^ A r else 0))))) _ (by omega) (by omega) (hf.a rfl) (fun i hi => by rw [gA_sA, if_pos rfl, if_neg (by omega)]; exact hE i hi) (by rw [gA_sA, if_pos rfl, if_pos rfl]) (hD.add g2 (by omega) (by omega))
          refine ⟨s', x', ?_, i2⟩
          unfold bX10_goOutFrom_27 fX10_goOutFrom_74
          refine eq_f st (eq_f or (eq_e (v' := nI (k - V r)) (by rw [cr, b3, nI_subN g2]) (eq_f (nI_nn (by omega)) (eq_f (nI_in (by omega) (by decide)) (eq_f (nI_in (by omega) (by decide)) (eq_b ac (eq_f (nI_in (by omega) (by decide)) ?_)))))))
          show loopN (bX10_goOutFrom_27 n0 q k11) (fun _ _ _ => none) w (nI k) (nI r + 1) (sA s 20 (Int32.toNatClampNeg (nI k)) (gA s 20 (Int32.toNatClampNeg (nI k)) ||| nI ((if (e (k - V r)).testBit (A r) then 2 ^ B r else 0) ||| (if (e (k - V r)).testBit (B r) then 2 ^ A r else 0)))) = _
          rw [r1, ck, hx, nOr]
          exact i1
        · obtain ⟨s', x', i1, i2⟩ := ih (r + 1) s x (by omega) (by omega) hf hE hx (hD.skip g2)
          refine ⟨s', x', ?_, i2⟩
          unfold bX10_goOutFrom_27 fX10_goOutFrom_74
          refine eq_f st (eq_f or (eq_n (eq_t ?_ ?_)))
          · rw [cr, b3, i_lt, nz, nz, zI_sub, zI_toInt (by omega) (by omega), show (0 : Int32).toInt = 0 from rfl]
            omega
          · rw [r1]
            exact i1
  have l11 : ∀ w k s e, k ≤ 61 → 1 ≤ k → 61 < w + k → XF (fun a => a = 20) M s → RcE S c k e → (∀ i, i < k → gA s 20 i = nI (e i)) → ∃ M' e', loopN (bX10_goOutFrom_11 n0 q) (fun _ _ => none) w (nI k) s = some M' ∧ XF (fun a => a = 20) M M' ∧ RcE S c 61 e' ∧ ∀ i, i < 61 → gA M' 20 i = nI (e' i) := fun w => by
    induction w with
    | zero => intro k s e hk hk1 hw; omega
    | succ w ih =>
      intro k s e hk hk1 hw hf hC hE
      show ∃ M' e', bX10_goOutFrom_11 n0 q (loopN (bX10_goOutFrom_11 n0 q) (fun _ _ => none) w) (nI k) s = _ ∧ _
      by_cases g : k = 61
      · subst g
        refine ⟨s, e, ?_, hf, hC, hE⟩
        unfold bX10_goOutFrom_11
        exact eq_t (by decide) rfl
      · have ck : (nI k).toNatClampNeg = k := nI_clamp (by omega)
        obtain ⟨s2, x, e2, f2, E2, x2, D2⟩ := l27 (loopN (bX10_goOutFrom_11 n0 q) (fun _ _ => none) w) k e hk1 (by omega) hC.2.1 n0 0 (sA s 20 k 0) 0 (by omega) (by omega) (hf.a rfl) (fun i hi => by rw [gA_sA, if_pos rfl, if_neg (by omega)]; exact hE i hi) (by rw [gA_sA, if_pos rfl, if_pos rfl]; rfl) RdE.z
        obtain ⟨M', e', i1, i2⟩ := ih (k + 1) s2 (exE e k x) (by omega) (by omega) (by omega) f2 (hC.step hk1 D2.1 (D2.rc hR o2)) (fun i hi => by
          by_cases z : i = k
          · rw [z, exE_n]; exact x2
          · rw [exE_ne z]; exact E2 i (by omega))
        refine ⟨M', e', ?_, i2⟩
        unfold bX10_goOutFrom_11
        exact eq_f (fun z => by have := (nI_ltI (a := 60) (by decide) (by omega)).mp z; omega) (eq_f (nI_in (by omega) (by decide)) (eq_e (v' := sA s 20 k 0) (by rw [ck]) (e2.trans i1)))
  have ob := one_bit c (by omega)
  obtain ⟨M', e', i1, i2⟩ := l11 n0 1 (sA M 20 0 (nI (2 ^ c))) (fun _ => 2 ^ c) (by omega) (by omega) (by omega) (XF.r.a rfl) ⟨rfl, fun i hi => ob.2.1, fun i i1 i2 => by omega⟩ (fun i hi => by rw [show i = 0 by omega, gA_sA, if_pos rfl, if_pos rfl])
  refine ⟨M', e', ?_, i2⟩
  unfold fX10_goOutFrom
  exact eq_f (by decide) (eq_e (v' := sA M 20 0 (nI (2 ^ c))) (by rw [ob.1, cl0]) i1)
/-- the first minute that will do -/
def eaF (p : Nat → Bool) : Nat → Nat → Int32
  | 0, _ => -1
  | n + 1, k => if p k = true then nI k else eaF p n (k + 1)
theorem eaF_t {p : Nat → Bool} {n k : Nat} (h : p k = true) : eaF p (n + 1) k = nI k := if_pos h
theorem eaF_f {p : Nat → Bool} {n k : Nat} (h : p k = false) : eaF p (n + 1) k = eaF p n (k + 1) := if_neg (by rw [h]; decide)
theorem eaF_cg {p p' : Nat → Bool} {N : Nat} (h : ∀ k, k < N → p k = p' k) : ∀ n k, n + k ≤ N → eaF p n k = eaF p' n k
  | 0, _, _ => rfl
  | n + 1, k, hk => by
    show (if p k = true then nI k else eaF p n (k + 1)) = (if p' k = true then nI k else eaF p' n (k + 1))
    rw [h k (by omega), eaF_cg h n (k + 1) (by omega)]
def erP (T : TP) (m : Nat) (pm : Nat → Int32 × Nat) (c : Nat) (e : Nat → Nat) : Nat → Bool := fun k => (e k).testBit c && decide (hrs T.hF T.gF c m (pm c) k < hrs T.hF T.gF c m (pm c) 0)
theorem erP_t {T : TP} {m : Nat} {pm : Nat → Int32 × Nat} {c : Nat} {e : Nat → Nat} {k : Nat} (h1 : (e k).testBit c = true) (h2 : hrs T.hF T.gF c m (pm c) k < hrs T.hF T.gF c m (pm c) 0) : erP T m pm c e k = true := by
  unfold erP
  rw [h1, decide_eq_true h2]
  rfl
theorem erP_f1 {T : TP} {m : Nat} {pm : Nat → Int32 × Nat} {c : Nat} {e : Nat → Nat} {k : Nat} (h1 : ¬ (e k).testBit c = true) : erP T m pm c e k = false := by
  unfold erP
  rw [Bool.eq_false_iff.mpr h1]
  rfl
theorem erP_f2 {T : TP} {m : Nat} {pm : Nat → Int32 × Nat} {c : Nat} {e : Nat → Nat} {k : Nat} (h2 : ¬ hrs T.hF T.gF c m (pm c) k < hrs T.hF T.gF c m (pm c) 0) : erP T m pm c e k = false := by
  unfold erP
  rw [decide_eq_false h2, Bool.and_false]
end
section
/-! EARLY ON BOTH SIDES: the answers -/
theorem xearlyV {n0 q nr c m : Nat} {T : TP} {pm : Nat → Int32 × Nat} {s : Nat × List (Nat × Nat)} {A B V : Nat → Nat} {S : Nat → Nat → Nat} {M : Mem} (hn : 1700 ≤ n0) (hT : XT n0 q T M) (hS : SX q T.nc T.nd m pm s M) (hO : PsO T.nt T.nc pm) (hV : XRdV q nr A B V M) (hR : RdS T.nc nr A B V S) (hq1 : gR M 1 = q) (hc : c < T.nc) (hm : m ≤ 9999) (h23 : ∀ k, k ≤ 60 → hrs T.hF T.gF c m (pm c) k ≤ 23) : ∃ M' e, ((fX11_foresee n0 26 (nI c) (60 : Int32) M).bind fun z21 => (fX10_goOutFrom n0 (gR z21.2 1) (nI c) z21.2).bind fun z34 => fX11_early_39 n0 (nI c) z21.1 (1 : Int32) z34) = some (eaF (erP T m pm c e) (min 60 (9999 - m)) 1, M') ∧ XF scA M M' ∧ RcE S c 61 e := by
  have o2 := hT.2.1.2.1
  obtain ⟨X1, a1, a2, a3⟩ := xfc (n0 := n0) (q1 := 26) (most := 60) hn hT hS hO hc hm (by decide) (Or.inl rfl)
  have f1 : XF scA M X1 := a3.wk (fun a y => by unfold scA; omega)
  have T1 := hT.xf f1 scA31
  obtain ⟨X2, e, b1, b2, b3, b4⟩ := xoutV (n0 := n0) hn T1 (hV.tw (f1.tw hT.1.1 scA31)) hR hc
  have f2 : XF scA M X2 := f1.tr (b2.wk (fun a (y : a = 20) => by unfold scA; omega))
  have h26 : ∀ j, j ≤ min 60 (9999 - m) → gA X2 26 j = nI (hrs T.hF T.gF c m (pm c) j) := fun j hj => by
    rw [b2.gA (a := 26) (show ¬ (26 : Nat) = 20 by decide) (by decide)]
    exact a2 j hj
  have lp : ∀ w k, k ≤ min 60 (9999 - m) + 1 → 1 ≤ k → min 60 (9999 - m) + 1 < w + k → loopN (bX11_early_39 n0) (fun _ _ _ _ => none) w (nI c) (nI (min 60 (9999 - m))) (nI k) X2 = some (eaF (erP T m pm c e) (min 60 (9999 - m) + 1 - k) k, X2) := fun w => by
    induction w with
    | zero => intro k hk _ hw; omega
    | succ w ih =>
      intro k hk hk1 hw
      show bX11_early_39 n0 (loopN (bX11_early_39 n0) (fun _ _ _ _ => none) w) (nI c) (nI (min 60 (9999 - m))) (nI k) X2 = _
      by_cases g : k = min 60 (9999 - m) + 1
      · rw [show min 60 (9999 - m) + 1 - k = 0 by omega]
        unfold bX11_early_39
        exact eq_t (nI_lt (by omega) (by omega)) rfl
      · obtain ⟨t, et⟩ : ∃ t, min 60 (9999 - m) + 1 - k = t + 1 := ⟨min 60 (9999 - m) - k, by omega⟩
        have st : ¬ nI (min 60 (9999 - m)) < nI k := fun z => by have := (nI_ltI (by omega) (by omega)).mp z; omega
        have k1 : nI k + 1 = nI (k + 1) := nI_add k 1
        have ck : (nI k).toNatClampNeg = k := nI_clamp (by omega)
        have nx := ih (k + 1) (by omega) (by omega) (by omega)
        rw [show min 60 (9999 - m) + 1 - (k + 1) = t by omega] at nx
        have v0 := h26 0 (by omega)
        have vk := h26 k (by omega)
        have l0 := h23 0 (by omega)
        have lk := h23 k (by omega)
        have cb : fX10_canBeAt n0 (nI c) (nI k) X2 = some (bI ((e k).testBit c = true), X2) := by
          have ev : gA X2 20 (nI k).toNatClampNeg = nI (e k) := by rw [ck]; exact b4 k (by omega)
          have hb := hasB (e k) (b3.2.1 k (by omega)) c (by omega)
          have s60 : ¬ (60 : Int32) < nI k := fun z => by have := (nI_ltI (a := 60) (by decide) (by omega)).mp z; omega
          unfold fX10_canBeAt
          by_cases z : (e k).testBit c = true
          · rw [bI_t z]
            exact eq_f (nI_nn (by omega)) (eq_f s60 (eq_f (nI_in (by omega) (by decide)) (eq_t (by rw [ev]; exact hb.mpr z) rfl)))
          · rw [bI_f z]
            exact eq_f (nI_nn (by omega)) (eq_f s60 (eq_f (nI_in (by omega) (by decide)) (eq_f (by rw [ev]; exact fun y => z (hb.mp y)) rfl)))
        by_cases z : (e k).testBit c = true
        · have zb : ¬ bI ((e k).testBit c = true) = 0 := by rw [bI_t z]; decide
          by_cases y : hrs T.hF T.gF c m (pm c) k < hrs T.hF T.gF c m (pm c) 0
          · rw [et, eaF_t (erP_t z y)]
            unfold bX11_early_39
            refine eq_f st (eq_b cb (eq_f zb (eq_f (nI_in (by omega) (by decide)) (eq_f (by decide) (eq_f ?_ rfl)))))
            show ¬ gA X2 26 (Int32.toNatClampNeg 0) ≤ gA X2 26 (nI k).toNatClampNeg
            rw [cl0, ck, v0, vk]
            exact nI_ge y (by omega)
          · rw [et, eaF_f (erP_f2 y)]
            unfold bX11_early_39 fX11_early_73
            rw [k1]
            refine eq_f st (eq_b cb (eq_f zb (eq_f (nI_in (by omega) (by decide)) (eq_f (by decide) (eq_t ?_ nx)))))
            show gA X2 26 (Int32.toNatClampNeg 0) ≤ gA X2 26 (nI k).toNatClampNeg
            rw [cl0, ck, v0, vk]
            exact nI_le (by omega) (by omega)
        · rw [et, eaF_f (erP_f1 z)]
          unfold bX11_early_39 fX11_early_73
          rw [k1]
          exact eq_f st (eq_b cb (eq_t (bI_f z) nx))
  refine ⟨X2, e, eq_b a1 (eq_b (z := X2) (by rw [show gR X1 1 = q by rw [f1.1]; exact hq1]; exact b1) ?_), f2, b3⟩
  have := lp n0 1 (by omega) (by omega) (by omega)
  rw [Nat.add_sub_cancel] at this
  exact this
/-- corners of the reference, one pair after the other, at minute n -/
def StE (S : Nat → Nat → Nat) (e : Nat → Nat) (n a t x : Nat) : Prop := x < 32 ∧ ∀ j, j < 5 → (x.testBit j = true ↔ ∃ a', (a' < a ∨ (a' = a ∧ j < t)) ∧ 0 < S a' j ∧ S a' j ≤ n ∧ (e (n - S a' j)).testBit a' = true)
theorem StE.z {S : Nat → Nat → Nat} {e : Nat → Nat} {n : Nat} : StE S e n 0 0 0 := ⟨by decide, fun j _ => ⟨fun z => by rw [Nat.zero_testBit] at z; exact absurd z (by decide), fun ⟨a', h, _⟩ => by omega⟩⟩
theorem StE.skip {S : Nat → Nat → Nat} {e : Nat → Nat} {n a t x : Nat} (h : StE S e n a t x) (hv : ¬ (0 < S a t ∧ S a t ≤ n ∧ (e (n - S a t)).testBit a = true)) : StE S e n a (t + 1) x := ⟨h.1, fun j hj => (h.2 j hj).trans ⟨fun ⟨a', h1, h2⟩ => ⟨a', by omega, h2⟩, fun ⟨a', h1, h2⟩ => ⟨a', by
  by_cases g : a' = a ∧ j = t
  · rw [g.1, g.2] at h2
    exact absurd h2 hv
  · omega, h2⟩⟩⟩
theorem StE.add {S : Nat → Nat → Nat} {e : Nat → Nat} {n a t x : Nat} (h : StE S e n a t x) (ht : t < 5) (hv : 0 < S a t ∧ S a t ≤ n ∧ (e (n - S a t)).testBit a = true) : StE S e n a (t + 1) (x ||| 2 ^ t) := by
  refine ⟨Nat.or_lt_two_pow (n := 5) h.1 (Nat.pow_lt_pow_right (by decide) ht), fun j hj => ?_⟩
  rw [Nat.testBit_or, Bool.or_eq_true, h.2 j hj, Nat.testBit_two_pow, decide_eq_true_iff]
  constructor
  · intro z
    rcases z with ⟨a', h1, h2⟩ | z
    · exact ⟨a', by omega, h2⟩
    · rw [← z]
      exact ⟨a, by omega, hv⟩
  · intro ⟨a', h1, h2⟩
    by_cases g : t = j
    · exact Or.inr g
    · exact Or.inl ⟨a', by omega, h2⟩
theorem StE.row {S : Nat → Nat → Nat} {e : Nat → Nat} {n a x : Nat} (h : StE S e n a 5 x) : StE S e n (a + 1) 0 x := ⟨h.1, fun j hj => (h.2 j hj).trans ⟨fun ⟨a', h1, h2⟩ => ⟨a', by omega, h2⟩, fun ⟨a', h1, h2⟩ => ⟨a', by omega, h2⟩⟩⟩
theorem StE.rc {S : Nat → Nat → Nat} {e : Nat → Nat} {n x : Nat} (h : StE S e n 5 0 x) : ∀ j, j < 5 → (x.testBit j = true ↔ ∃ a, a < 5 ∧ 0 < S a j ∧ S a j ≤ n ∧ (e (n - S a j)).testBit a = true) := fun j hj => (h.2 j hj).trans ⟨fun ⟨a', h1, h2⟩ => ⟨a', by omega, h2⟩, fun ⟨a', h1, h2⟩ => ⟨a', by omega, h2⟩⟩
theorem yearlyV {n0 b c m : Nat} {T : TP} {pm : Nat → Int32 × Nat} {s : Nat × List (Nat × Nat)} {S : Nat → Nat → Nat} {M : Mem} (hn : 1700 ≤ n0) (hY : YT n0 b T M) (hL : LyD 0 T.nc m pm s M) (hO : PsO T.nt T.nc pm) (hs : sOk T.nd s) (h8 : S8 b S M) (hc : c < T.nc) (hm : m ≤ 9999) (h23 : ∀ k, k ≤ 60 → hrs T.hF T.gF c m (pm c) k ≤ 23) (h0 : gA M 38 0 = nI (2 ^ c)) : ∃ M' e, fX12_early_21 n0 (nI c) (1 : Int32) M = some (eaF (erP T m pm c e) (min 60 (9999 - m)) 1, M') ∧ YF eP M M' ∧ RcE S c 61 e := by
  obtain ⟨o1, o2, o3, _⟩ := hY.2.1
  have hb := hY.2.2.1
  have hl := hs.l
  have h13 : ∀ M', YF eP M M' → gI M' 13 = nI b := fun M' f => by rw [f.2.2.1]; exact hY.2.2.2.1
  have St : ∀ M', YF eP M M' → ∀ a t, a < 5 → t < 5 → gA M' 8 (25 * b + 5 * a + t) = nI (S a t) ∧ S a t ≤ 30 := fun M' f a t ha ht => by
    rw [f.gA (a := 8) (fun i z => by unfold eP lP tP dP at z; omega) (by decide), Nat.add_assoc]
    exact h8 a t ha ht
  -- from one corner
  have l44 : ∀ (k21 : Int32 → Int32 → Mem → Option (Int32 × Mem)) (k36 : Int32 → Int32 → Int32 → Mem → Option (Int32 × Mem)) (n a : Nat) (e : Nat → Nat), 1 ≤ n → n ≤ 60 → a < 5 → (∀ i, i < n → e i < 32) → ∀ w t s x, t ≤ 5 → 5 < w + t → YF eP M s → (∀ i, i < n → gA s 38 i = nI (e i)) → gA s 38 n = nI x → StE S e n a t x → ∃ s' x', loopN (bX12_early_44 n0 k21 k36) (fun _ _ _ _ _ => none) w (nI c) (nI n) (nI a) (nI t) s = k36 (nI c) (nI n) (nI (a + 1)) s' ∧ YF eP M s' ∧ (∀ i, i < n → gA s' 38 i = nI (e i)) ∧ gA s' 38 n = nI x' ∧ StE S e n a 5 x' := fun k21 k36 n a e hn1 hn2 ha he w => by
    induction w with
    | zero => intro t s x ht hw; omega
    | succ w ih =>
      intro t s x ht hw hf hE hx hD
      show ∃ s' x', bX12_early_44 n0 k21 k36 (loopN (bX12_early_44 n0 k21 k36) (fun _ _ _ _ _ => none) w) (nI c) (nI n) (nI a) (nI t) s = _ ∧ _
      by_cases g : t = 5
      · subst g
        refine ⟨s, x, ?_, hf, hE, hx, hD⟩
        unfold bX12_early_44
        refine eq_t (by decide) ?_
        rw [show nI a + 1 = nI (a + 1) from nI_add a 1]
      · have ht' : t < 5 := by omega
        obtain ⟨v2, v1⟩ := St s hf a t ha ht'
        have ea : fX12_at n0 (gI s 13) (nI a) (nI t) s = some (nI (25 * b + 5 * a + t), s) := by
          unfold fX12_at
          rw [h13 s hf, y25Ix]
        have oi : ¬ oob (nI (25 * b + 5 * a + t)) 50 := nI_in (by omega) (by decide)
        have on : ¬ oob (nI n) 61 := nI_in (by omega) (by decide)
        have cn : (nI n).toNatClampNeg = n := nI_clamp (by omega)
        have k1 : nI t + 1 = nI (t + 1) := nI_add t 1
        have ev : gA s 8 (nI (25 * b + 5 * a + t)).toNatClampNeg = nI (S a t) := by rw [nI_clamp (by omega)]; exact v2
        have stp : ¬ (5 : Int32) ≤ nI t := nI_ge (b := 5) ht' (by decide)
        have nxt : ∀ u x', gA s 38 (nI n).toNatClampNeg ||| u = nI x' → StE S e n a (t + 1) x' → ∃ s' x'', fX12_early_110 n0 k21 k36 (loopN (bX12_early_44 n0 k21 k36) (fun _ _ _ _ _ => none) w) (nI c) (nI n) (nI a) (nI t) (nI n) (gA s 38 (nI n).toNatClampNeg) u s = k36 (nI c) (nI n) (nI (a + 1)) s' ∧ YF eP M s' ∧ (∀ i, i < n → gA s' 38 i = nI (e i)) ∧ gA s' 38 n = nI x'' ∧ StE S e n a 5 x'' := fun u x' hu hD' => by
          obtain ⟨s', x'', i1, i2⟩ := ih (t + 1) (sA s 38 n (nI x')) x' (by omega) (by omega) (hf.a (Or.inr rfl)) (fun i hi => by rw [gA_sA, if_pos rfl, if_neg (by omega)]; exact hE i hi) (by rw [gA_sA, if_pos rfl, if_pos rfl]) hD'
          refine ⟨s', x'', ?_, i2⟩
          unfold fX12_early_110
          refine eq_f on (eq_e (v' := sA s 38 n (nI x')) (by rw [hu, cn]) ?_)
          rw [k1]
          exact i1
        have nx0 : ¬ (0 < S a t ∧ S a t ≤ n ∧ (e (n - S a t)).testBit a = true) → ∃ s' x'', fX12_early_109 n0 k21 k36 (loopN (bX12_early_44 n0 k21 k36) (fun _ _ _ _ _ => none) w) (nI c) (nI n) (nI a) (nI t) (nI n) (gA s 38 (nI n).toNatClampNeg) s = k36 (nI c) (nI n) (nI (a + 1)) s' ∧ YF eP M s' ∧ (∀ i, i < n → gA s' 38 i = nI (e i)) ∧ gA s' 38 n = nI x'' ∧ StE S e n a 5 x'' := fun hv => nxt 0 x (by rw [cn, hx, show (0 : Int32) = nI 0 from rfl, nOr, Nat.or_zero]) (hD.skip hv)
        by_cases g1 : S a t = 0
        · obtain ⟨s', x', i1, i2⟩ := nx0 (fun z => by omega)
          refine ⟨s', x', ?_, i2⟩
          unfold bX12_early_44
          exact eq_f stp (eq_b ea (eq_f oi (eq_e ev (eq_f on (eq_t (by rw [g1]; decide) i1)))))
        · have g1' : ¬ nI (S a t) ≤ 0 := nI_ge (a := 0) (by omega) (by omega)
          by_cases g2 : n < S a t
          · obtain ⟨s', x', i1, i2⟩ := nx0 (fun z => by omega)
            refine ⟨s', x', ?_, i2⟩
            unfold bX12_early_44
            exact eq_f stp (eq_b ea (eq_f oi (eq_e ev (eq_f on (eq_f g1' (eq_t (nI_lt g2 (by omega)) i1))))))
          · have g2' : ¬ nI n < nI (S a t) := fun z => g2 ((nI_ltI (by omega) (by omega)).mp z)
            have sb : nI n - nI (S a t) = nI (n - S a t) := nI_subN (by omega)
            have od : ¬ oob (nI n - nI (S a t)) 61 := by rw [sb]; exact nI_in (by omega) (by decide)
            have hb2 := hasB (e (n - S a t)) (he _ (by omega)) a ha
            have e38 : gA s 38 (nI n - nI (S a t)).toNatClampNeg = nI (e (n - S a t)) := by rw [sb, nI_clamp (by omega)]; exact hE _ (by omega)
            by_cases g3 : (e (n - S a t)).testBit a = true
            · have er : fX12_has2 n0 (gA s 38 (nI n - nI (S a t)).toNatClampNeg) (nI a) s = some (1, s) := by
                rw [e38]
                unfold fX12_has2
                exact eq_t (hb2.mpr g3) rfl
              obtain ⟨s', x', i1, i2⟩ := nxt ((1 : Int32) <<< (nI t &&& 31)) (x ||| 2 ^ t) (by rw [cn, hx, (one_bit t ht').1, nOr]) (hD.add ht' ⟨by omega, by omega, g3⟩)
              refine ⟨s', x', ?_, i2⟩
              unfold bX12_early_44
              exact eq_f stp (eq_b ea (eq_f oi (eq_e ev (eq_f on (eq_f g1' (eq_f g2' (eq_f od (eq_b er (eq_f (show ¬ (1 : Int32) = 0 by decide) i1)))))))))
            · have er : fX12_has2 n0 (gA s 38 (nI n - nI (S a t)).toNatClampNeg) (nI a) s = some (0, s) := by
                rw [e38]
                unfold fX12_has2
                exact eq_f (fun y => g3 (hb2.mp y)) rfl
              obtain ⟨s', x', i1, i2⟩ := nx0 (fun z => g3 z.2.2)
              refine ⟨s', x', ?_, i2⟩
              unfold bX12_early_44
              exact eq_f stp (eq_b ea (eq_f oi (eq_e ev (eq_f on (eq_f g1' (eq_f g2' (eq_f od (eq_b er (eq_t rfl i1)))))))))
  -- one minute
  have l36 : ∀ (k21 : Int32 → Int32 → Mem → Option (Int32 × Mem)) (n : Nat) (e : Nat → Nat), 1 ≤ n → n ≤ 60 → (∀ i, i < n → e i < 32) → ∀ w a s x, a ≤ 5 → 5 < w + a → YF eP M s → (∀ i, i < n → gA s 38 i = nI (e i)) → gA s 38 n = nI x → StE S e n a 0 x → ∃ s' x', loopN (bX12_early_36 n0 k21) (fun _ _ _ _ => none) w (nI c) (nI n) (nI a) s = k21 (nI c) (nI (n + 1)) s' ∧ YF eP M s' ∧ (∀ i, i < n → gA s' 38 i = nI (e i)) ∧ gA s' 38 n = nI x' ∧ StE S e n 5 0 x' := fun k21 n e hn1 hn2 he w => by
    induction w with
    | zero => intro a s x ha hw; omega
    | succ w ih =>
      intro a s x ha hw hf hE hx hD
      show ∃ s' x', bX12_early_36 n0 k21 (loopN (bX12_early_36 n0 k21) (fun _ _ _ _ => none) w) (nI c) (nI n) (nI a) s = _ ∧ _
      by_cases g : a = 5
      · subst g
        refine ⟨s, x, ?_, hf, hE, hx, hD⟩
        unfold bX12_early_36
        refine eq_t (by decide) ?_
        rw [show nI n + 1 = nI (n + 1) from nI_add n 1]
      · obtain ⟨s2, x2, j1, j2, j3, j4, j5⟩ := l44 k21 (loopN (bX12_early_36 n0 k21) (fun _ _ _ _ => none) w) n a e hn1 hn2 (by omega) he n0 0 s x (by omega) (by omega) hf hE hx hD
        obtain ⟨s', x', i1, i2⟩ := ih (a + 1) s2 x2 (by omega) (by omega) j2 j3 j4 j5.row
        refine ⟨s', x', ?_, i2⟩
        unfold bX12_early_36
        exact eq_f (nI_ge (b := 5) (by omega) (by decide)) (j1.trans i1)
  -- minutes ahead
  have l145 : ∀ (e : Nat → Nat), RcE S c 61 e → ∀ w k M1, k ≤ min 60 (9999 - m) + 1 → 1 ≤ k → min 60 (9999 - m) + 1 < w + k → YF eP M M1 → (∀ i, i < 61 → gA M1 38 i = nI (e i)) → LyD 1 T.nc (m + (k - 1)) (trP T m pm (k - 1)) s M1 → ∃ M', loopN (bX12_early_145 n0) (fun _ _ _ _ => none) w (nI c) (nI (hrs T.hF T.gF c m (pm c) 0)) (nI k) M1 = some (eaF (erP T m pm c e) (min 60 (9999 - m) + 1 - k) k, M') ∧ YF eP M M' := fun e hC w => by
    induction w with
    | zero => intro k M1 hk _ hw; omega
    | succ w ih =>
      intro k M1 hk hk1 hw hI hE hL1
      show ∃ M', bX12_early_145 n0 (loopN (bX12_early_145 n0) (fun _ _ _ _ => none) w) (nI c) (nI (hrs T.hF T.gF c m (pm c) 0)) (nI k) M1 = _ ∧ _
      have m28 : gA M1 28 0 = nI m := m28f hL.1.1 hI ePn
      have Y1 := hY.yf hI eP28
      by_cases g : k = min 60 (9999 - m) + 1
      · refine ⟨M1, ?_, hI⟩
        rw [show min 60 (9999 - m) + 1 - k = 0 by omega]
        unfold bX12_early_145
        exact eq_b (yahF (lo := 1) (hi := 60) m28 hm (by decide) (by decide) (by omega) (by omega)) (eq_t rfl rfl)
      · obtain ⟨j, rfl⟩ : ∃ j, k = j + 1 := ⟨k - 1, by omega⟩
        rw [Nat.add_sub_cancel] at hL1
        obtain ⟨t, et⟩ : ∃ t, min 60 (9999 - m) + 1 - (j + 1) = t + 1 := ⟨min 60 (9999 - m) - (j + 1), by omega⟩
        have et2 : min 60 (9999 - m) + 1 - (j + 1 + 1) = t := by omega
        obtain ⟨M2, g1, g2, g3⟩ := ytickD (v := 1) hn Y1 (by decide) hL1 (trP_ok hO j) hs (by omega)
        have f2 := hI.tr (le1 g3)
        have E2 : ∀ i, i < 61 → gA M2 38 i = nI (e i) := fun i hi => by
          rw [g3.gA (a := 38) (fun i z => by unfold lP tP dP at z; omega) (by decide)]
          exact hE i hi
        have k1 : nI (j + 1) + 1 = nI (j + 1 + 1) := nI_add (j + 1) 1
        have ck : (nI (j + 1)).toNatClampNeg = j + 1 := nI_clamp (by omega)
        have hb2 := hasB (e (j + 1)) (hC.2.1 _ (by omega)) c (by omega)
        have ah := yahT (n0 := n0) (lo := 1) (hi := 60) (k := j + 1) m28 (by omega) (by omega) (by decide) (by omega)
        have lk := h23 (j + 1) (by omega)
        have l0 := h23 0 (by omega)
        have e38 : gA M2 38 (nI (j + 1)).toNatClampNeg = nI (e (j + 1)) := by rw [ck]; exact E2 _ (by omega)
        by_cases z : (e (j + 1)).testBit c = true
        · have er : fX12_has2 n0 (gA M2 38 (nI (j + 1)).toNatClampNeg) (nI c) M2 = some (1, M2) := by
            rw [e38]
            unfold fX12_has2
            exact eq_t (hb2.mpr z) rfl
          obtain ⟨_, M3, e1, e2⟩ := yhr (hY.yf f2 eP28) (v := 1) (by decide) g2.1 (trP_ok hO (j + 1)) (by omega) hc
          have f3 := f2.tr (e2.y : YF eP M2 M3)
          have e1' : fX12_hour n0 (nI 1) (nI c) M2 = some (nI (hrs T.hF T.gF c m (pm c) (j + 1)), M3) := e1
          by_cases y : hrs T.hF T.gF c m (pm c) (j + 1) < hrs T.hF T.gF c m (pm c) 0
          · refine ⟨M3, ?_, f3⟩
            rw [et, eaF_t (erP_t z y)]
            unfold bX12_early_145
            exact eq_b ah (eq_f (show ¬ (1 : Int32) = 0 by decide) (eq_b g1 (eq_f (nI_in (by omega) (by decide)) (eq_b er (eq_f (show ¬ (1 : Int32) = 0 by decide) (eq_b e1' (eq_f (nI_ge y (by omega)) rfl)))))))
          · obtain ⟨M', i1, i2⟩ := ih (j + 1 + 1) M3 (by omega) (by omega) (by omega) f3 (fun i hi => by rw [e2.2.2.2.1 38 (by decide)]; exact E2 i hi) (LyD.fr (P := fun _ _ => False) g2 e2.y o2 (by omega) (fun _ _ z => z.elim))
            refine ⟨M', ?_, i2⟩
            rw [et2] at i1
            rw [et, eaF_f (erP_f2 y)]
            unfold bX12_early_145 fX12_early_186
            rw [k1]
            exact eq_b ah (eq_f (show ¬ (1 : Int32) = 0 by decide) (eq_b g1 (eq_f (nI_in (by omega) (by decide)) (eq_b er (eq_f (show ¬ (1 : Int32) = 0 by decide) (eq_b e1' (eq_t (nI_le (by omega) (by omega)) i1)))))))
        · have er : fX12_has2 n0 (gA M2 38 (nI (j + 1)).toNatClampNeg) (nI c) M2 = some (0, M2) := by
            rw [e38]
            unfold fX12_has2
            exact eq_f (fun y => z (hb2.mp y)) rfl
          obtain ⟨M', i1, i2⟩ := ih (j + 1 + 1) M2 (by omega) (by omega) (by omega) f2 E2 g2
          refine ⟨M', ?_, i2⟩
          rw [et2] at i1
          rw [et, eaF_f (erP_f1 z)]
          unfold bX12_early_145 fX12_early_186
          rw [k1]
          exact eq_b ah (eq_f (show ¬ (1 : Int32) = 0 by decide) (eq_b g1 (eq_f (nI_in (by omega) (by decide)) (eq_b er (eq_t rfl i1)))))
  -- minute after minute
  have l21 : ∀ w n s1 e, n ≤ 61 → 1 ≤ n → 61 < w + n → YF eP M s1 → RcE S c n e → (∀ i, i < n → gA s1 38 i = nI (e i)) → ∃ M' e', loopN (bX12_early_21 n0) (fun _ _ _ => none) w (nI c) (nI n) s1 = some (eaF (erP T m pm c e') (min 60 (9999 - m)) 1, M') ∧ YF eP M M' ∧ RcE S c 61 e' := fun w => by
    induction w with
    | zero => intro n s1 e hn hn1 hw; omega
    | succ w ih =>
      intro n s1 e hn' hn1 hw hf hC hE
      show ∃ M' e', bX12_early_21 n0 (loopN (bX12_early_21 n0) (fun _ _ _ => none) w) (nI c) (nI n) s1 = _ ∧ _
      by_cases g : n = 61
      · subst g
        have Y1 := hY.yf hf eP28
        have L1 : LyD 0 T.nc m pm s s1 := hL.fr hf o2 (by omega) (fun a i z y => by unfold eP lP tP dP at z; unfold lP tP dP at y; omega)
        obtain ⟨_, M2, e1, e2⟩ := yhr Y1 (v := 0) (by decide) L1.1 hO (by omega) hc
        have L2 : LyD 0 T.nc m pm s M2 := LyD.fr (P := fun _ _ => False) L1 e2.y o2 (by omega) (fun _ _ z => z.elim)
        obtain ⟨M3, b1, b2, b3⟩ := ycopyD (n0 := n0) (v := 1) (u := 0) hn (by decide) (by decide) (by decide) o2 (by omega) L2
        have f3 := hf.tr ((e2.y : YF eP s1 M2).tr (le1 b3))
        have E3 : ∀ i, i < 61 → gA M3 38 i = nI (e i) := fun i hi => by
          rw [b3.gA (a := 38) (fun i z => by unfold lP tP dP at z; omega) (by decide), e2.2.2.2.1 38 (by decide)]
          exact hE i hi
        obtain ⟨M', i1, i2⟩ := l145 e hC n0 1 M3 (by omega) (by omega) (by omega) f3 E3 b2
        rw [Nat.add_sub_cancel] at i1
        refine ⟨M', e, ?_, i2, hC⟩
        unfold bX12_early_21
        have e1' : fX12_hour n0 (nI 0) (nI c) s1 = some (nI (hrs T.hF T.gF c m (pm c) 0), M2) := e1
        exact eq_t (by decide) (eq_b e1' (eq_b b1 i1))
      · have cn : (nI n).toNatClampNeg = n := nI_clamp (by omega)
        obtain ⟨s2, x, j1, j2, j3, j4, j5⟩ := l36 (loopN (bX12_early_21 n0) (fun _ _ _ => none) w) n e hn1 (by omega) hC.2.1 n0 0 (sA s1 38 n 0) 0 (by omega) (by omega) (hf.a (Or.inr rfl)) (fun i hi => by rw [gA_sA, if_pos rfl, if_neg (by omega)]; exact hE i hi) (by rw [gA_sA, if_pos rfl, if_pos rfl]; rfl) StE.z
        obtain ⟨M', e', i1, i2⟩ := ih (n + 1) s2 (exE e n x) (by omega) (by omega) (by omega) j2 (hC.step hn1 j5.1 j5.rc) (fun i hi => by
          by_cases z : i = n
          · rw [z, exE_n]; exact j4
          · rw [exE_ne z]; exact j3 i (by omega))
        refine ⟨M', e', ?_, i2⟩
        unfold bX12_early_21
        exact eq_f (fun z => by have := (nI_ltI (a := 60) (by decide) (by omega)).mp z; omega) (eq_f (nI_in (by omega) (by decide)) (eq_e (v' := sA s1 38 n 0) (by rw [cn]) (j1.trans i1)))
  have ob := one_bit c (by omega)
  exact l21 n0 1 M (fun _ => 2 ^ c) (by omega) (by omega) (by omega) YF.r ⟨rfl, fun i hi => ob.2.1, fun i i1 i2 => by omega⟩ (fun i hi => by rw [show i = 0 by omega]; exact h0)
theorem cEarly {n0 : Nat} {x : Int32} {MX MY : Mem} (hn : 1700 ≤ n0) (h : R n0 MX MY) : Cal n0 (fX11_early n0 x MX) (fX12_early n0 x MY) := by
  obtain ⟨q, b, T, nr, C, m, pm, s, h⟩ := h
  obtain ⟨h1, h2, h3, h4, _⟩ := id h
  obtain ⟨o1, o2, o3, _⟩ := h1.2.2.2.1.2.1
  have hl := h2.2.2.l
  rcases isCo h1 x with ⟨c, hc, rfl, e1, e2⟩ | ⟨_, e1, e2⟩
  · have ob := one_bit c (by omega)
    have hm := h2.1
    have f1 : YF eP MY (sA MY 38 0 (nI (2 ^ c))) := YF.r.a (Or.inr rfl)
    have h23 : ∀ k, k ≤ 60 → hrs T.hF T.gF c m (pm c) k ≤ 23 := fun k hk => hrs_le h1.2.2.2.2.1 hc (h2.2.1 c hc) (by omega)
    obtain ⟨S, F, A, B, V, h8, h9, hI, hR, hV⟩ := h1.far (by omega)
    obtain ⟨X, e, x1, x2, x3⟩ := xearlyV (n0 := n0) hn h1.2.2.2.1 h3 h2.2.1 hV hR h1.2.1 hc hm h23
    obtain ⟨Y, e', y1, y2, y3⟩ := yearlyV (n0 := n0) (S := S) hn (h1.2.2.2.2.1.yf f1 eP28) (h4.fr f1 o2 (by omega) (fun a i z y => by unfold eP lP tP dP at z; unfold lP tP dP at y; omega)) h2.2.1 h2.2.2 (show S8 b S (sA MY 38 0 (nI (2 ^ c))) from fun a c' ha hc' => by rw [gA_sA_ne (by decide)]; exact h8 a c' ha hc') hc hm h23 (by rw [gA_sA, if_pos rfl, if_pos rfl])
    have ee : eaF (erP T m pm c e) (min 60 (9999 - m)) 1 = eaF (erP T m pm c e') (min 60 (9999 - m)) 1 := eaF_cg (N := 61) (fun k hk => by unfold erP; rw [x3.uq y3 k hk]) _ _ (by omega)
    refine Cal.scr h (MX' := X) (MY' := Y) (r := eaF (erP T m pm c e) (min 60 (9999 - m)) 1) ?_ ?_ x2 (ePsc (f1.tr y2))
    · unfold fX11_early
      exact eq_b e1 (eq_f (show ¬ (1 : Int32) = 0 by decide) x1)
    · rw [ee]
      unfold fX12_early
      exact eq_b e2 (eq_f (show ¬ (1 : Int32) = 0 by decide) (eq_f (by decide) (eq_e (v' := sA MY 38 0 (nI (2 ^ c))) (by rw [ob.1, cl0]) y1)))
  · refine Cal.scr (r := -1) (MX' := MX) (MY' := MY) h ?_ ?_ XF.r YF.r
    · unfold fX11_early
      exact eq_b e1 (eq_t rfl rfl)
    · unfold fX12_early
      exact eq_b e2 (eq_t rfl rfl)
end
section
/-! ODDS COME TO AN END -/
def CalL (n0 : Nat) (f g : Option (Int64 × Mem)) : Prop := ∃ r r' MX' MY', f = some (r, MX') ∧ g = some (r', MY') ∧ R n0 MX' MY'
theorem CalL.scr {n0 q b : Nat} {T : TP} {nr C m : Nat} {pm : Nat → Int32 × Nat} {s : Nat × List (Nat × Nat)} {MX MY : Mem} {f g : Option (Int64 × Mem)} (h : RR n0 q b T nr C m pm s MX MY) (e1 : okP f (fun z => XF scA MX z.2)) (e2 : okP g (fun z => YF scP MY z.2)) : CalL n0 f g := by
  obtain ⟨⟨r, X⟩, a1, a2⟩ := e1
  obtain ⟨⟨r', Y⟩, b1, b2⟩ := e2
  exact ⟨r, r', X, Y, a1, b1, q, b, T, nr, C, m, pm, s, h.scr a2 b2⟩
theorem nN31 : ∀ a, noN a → a < 31 ∨ 63 ≤ a := fun _ z => z.elim
def OdI (c m : Nat) (M0 : Mem) (s : Int64 × Mem) : Prop := XF noN M0 s.2 ∧ gI s.2 897 = nI c ∧ gI s.2 900 = nI m
theorem xone {n0 q c m h : Nat} {t x1 : Int32} {T : TP} {M : Mem} (hn : 1700 ≤ n0) (hT : XT n0 q T M) (hX : PmX q c t h m M) (hO : PmO T.nt c t h m) (hm : m < 9999) (h1 : gR M 1 = q) : okP (fX11_countRowsOfOne n0 x1 M) (fun z => XF noN M z.2) := by
  have o1 := hT.2.1.1
  obtain ⟨M1, a1, a2, a3⟩ := xgo hT.1 hX hO hm
  have ok := tk_ok (nt := T.nt) (c := c) (m := m + 1) (gF := T.gF) (p := (t, h)) ⟨hO.2.1, hO.2.2.1⟩
  obtain ⟨_, M2, b1, b2, b3⟩ := xhr (hT.1.xf a3 nN31) a2 ⟨hO.1, ok.1, ok.2, by omega⟩
  have lp : ∀ v M3, OdI c (m + 1) M (v, M3) → okP (fX11_countRowsOfOne_26 n0 x1 v M3) (fun z => XF noN M z.2) := fun v M3 hI => by
    refine lpG (L := fun w k s => loopN (bX11_countRowsOfOne_30 n0) (fun _ _ _ _ => none) w x1 s.1 (nI k) s.2) (n := T.nt) (I := OdI c (m + 1) M) (fun w k s hk hs => Or.inr ?_) (fun w s hs => ?_) n0 0 (v, M3) (by omega) (by omega) hI
    · show ∃ s', bX11_countRowsOfOne_30 n0 (loopN (bX11_countRowsOfOne_30 n0) (fun _ _ _ _ => none) w) x1 s.1 (nI k) s.2 = _ ∧ _
      have T1 := hT.xf hs.1 nN31
      have q1 : gR s.2 1 = q := by rw [hs.1.1]; exact h1
      have r1 : gR s.2 896 = q := by rw [hs.1.1]; exact hX.1
      have f1 : XF noN M (hld s.2 (nI c) (nI k) 0 (nI (m + 1))) := hs.1.tr hld_f
      obtain ⟨_, M4, c1, c2, c3⟩ := xhr (hT.1.xf f1 nN31) (hld_p (h := 0) r1) ⟨hO.1, Or.inr ⟨k, hk, rfl⟩, Nat.zero_le _, by omega⟩
      have f4 := f1.tr c3
      by_cases g : nI (T.hF c (nI k) 0 (m + 1)) = x1
      · refine ⟨(s.1 + (gI M4 (128 * (gR M4 1) + 16)).toInt64, M4), ?_, f4, c2.2.1, c2.2.2.2.2⟩
        unfold bX11_countRowsOfOne_30
        refine eq_f (by rw [q1, T1.1.2.2.1]; exact nI_ge hk (by omega)) (eq_b (z := hld s.2 (nI c) (nI k) 0 (nI (m + 1))) (by rw [hs.2.1, hs.2.2]; exact xhold) (eq_b c1 (eq_t g ?_)))
        unfold fX11_countRowsOfOne_88
        rw [show nI k + 1 = nI (k + 1) from nI_add k 1]
        rfl
      · refine ⟨(s.1, M4), ?_, f4, c2.2.1, c2.2.2.2.2⟩
        unfold bX11_countRowsOfOne_30
        refine eq_f (by rw [q1, T1.1.2.2.1]; exact nI_ge hk (by omega)) (eq_b (z := hld s.2 (nI c) (nI k) 0 (nI (m + 1))) (by rw [hs.2.1, hs.2.2]; exact xhold) (eq_b c1 (eq_f g ?_)))
        unfold fX11_countRowsOfOne_88
        rw [show nI k + 1 = nI (k + 1) from nI_add k 1]
    · show okP (bX11_countRowsOfOne_30 n0 (loopN (bX11_countRowsOfOne_30 n0) (fun _ _ _ _ => none) w) x1 s.1 (nI T.nt) s.2) _
      have T1 := hT.xf hs.1 nN31
      have q1 : gR s.2 1 = q := by rw [hs.1.1]; exact h1
      unfold bX11_countRowsOfOne_30
      exact okP_t (by rw [q1, T1.1.2.2.1]; exact Int32.le_refl _) (okP_some hs.1)
  have f2 := a3.tr b3
  unfold fX11_countRowsOfOne
  refine okP_be a1 (okP_be b1 (okP_ite (fun _ => ?_) (fun _ => lp _ _ ⟨f2, b2.2.1, b2.2.2.2.2⟩)))
  exact okP_be rfl (lp _ _ ⟨f2, b2.2.1, b2.2.2.2.2⟩)
theorem xtwo {n0 q c m h : Nat} {t x1 : Int32} {T : TP} {M : Mem} (hn : 1700 ≤ n0) (hT : XT n0 q T M) (hX : PmX q c t h m M) (hO : PmO T.nt c t h m) (hm : m + 1 < 9999) (h1 : gR M 1 = q) : okP (fX11_countRowsOfTwo n0 x1 M) (fun z => XF noN M z.2) := by
  have o1 := hT.2.1.1
  obtain ⟨M1, a1, a2, a3⟩ := xgo hT.1 hX hO (by omega)
  have ok := tk_ok (nt := T.nt) (c := c) (m := m + 1) (gF := T.gF) (p := (t, h)) ⟨hO.2.1, hO.2.2.1⟩
  obtain ⟨⟨r2, M2⟩, b1, b2⟩ := xone (n0 := n0) (x1 := x1) hn (hT.xf a3 nN31) a2 ⟨hO.1, ok.1, ok.2, by omega⟩ (by omega) (by rw [a3.1]; exact h1)
  have b2' : XF noN M1 M2 := b2
  unfold fX11_countRowsOfTwo
  refine okP_bnd (okP_be a1 (okP_bnd (okP_be rfl (okP_be b1 (okP_bnd ?_)))))
  rw [hX.2.1, a2.2.2.2.2]
  refine lpG (L := fun w k (s : Int64 × Mem) => loopN (bX11_countRowsOfTwo_38 n0) (fun _ _ _ _ _ _ => none) w x1 (nI c) (nI (m + 1)) s.1 (nI k) s.2) (n := T.nt) (I := fun s => XF noN M s.2) (fun w k s hk hs => Or.inr ?_) (fun w s hs => ?_) n0 0 (_, M2) (by omega) (by omega) (a3.tr b2')
  · show ∃ s', bX11_countRowsOfTwo_38 n0 (loopN (bX11_countRowsOfTwo_38 n0) (fun _ _ _ _ _ _ => none) w) x1 (nI c) (nI (m + 1)) s.1 (nI k) s.2 = _ ∧ _
    have T1 := hT.xf hs nN31
    have q1 : gR s.2 1 = q := by rw [hs.1]; exact h1
    have r1 : gR s.2 896 = q := by rw [hs.1]; exact hX.1
    have f1 : XF noN M (hld s.2 (nI c) (nI k) 0 (nI (m + 1))) := hs.tr hld_f
    obtain ⟨⟨r3, M3⟩, c1, c2⟩ := xone (n0 := n0) (x1 := x1) hn (hT.xf f1 nN31) (hld_p (h := 0) r1) ⟨hO.1, Or.inr ⟨k, hk, rfl⟩, Nat.zero_le _, by omega⟩ (by omega) q1
    refine ⟨(s.1 + (gI (hld s.2 (nI c) (nI k) 0 (nI (m + 1))) (128 * gR (hld s.2 (nI c) (nI k) 0 (nI (m + 1))) 1 + 16)).toInt64 * r3, M3), ?_, f1.tr c2⟩
    unfold bX11_countRowsOfTwo_38
    refine eq_f (by rw [q1, T1.1.2.2.1]; exact nI_ge hk (by omega)) (eq_b (z := hld s.2 (nI c) (nI k) 0 (nI (m + 1))) xhold (eq_b c1 ?_))
    rw [show nI k + 1 = nI (k + 1) from nI_add k 1]
    rfl
  · show okP (bX11_countRowsOfTwo_38 n0 (loopN (bX11_countRowsOfTwo_38 n0) (fun _ _ _ _ _ _ => none) w) x1 (nI c) (nI (m + 1)) s.1 (nI T.nt) s.2) _
    have T1 := hT.xf hs nN31
    have q1 : gR s.2 1 = q := by rw [hs.1]; exact h1
    unfold bX11_countRowsOfTwo_38
    exact okP_t (by rw [q1, T1.1.2.2.1]; exact Int32.le_refl _) (okP_some hs)
theorem xbey {n0 q nc nd m d : Nat} {pm : Nat → Int32 × Nat} {s : Nat × List (Nat × Nat)} {X : Mem} (S : SX q nc nd m pm s X) (hm : m ≤ 9999) (hd : d ≤ 100) : fX11_isBeyond n0 (nI d) X = some (bI (9999 - m < d), X) := by
  unfold fX11_isBeyond
  rw [S.2.2.1, show (9999 : Int32) - nI m = nI (9999 - m) from nI_subN hm]
  by_cases z : d ≤ 9999 - m
  · rw [bI_f (by omega)]; exact eq_t (nI_le z (by omega)) rfl
  · rw [bI_t (by omega)]; exact eq_f (nI_ge (by omega) (by omega)) rfl
theorem in12 (x : Int32) (h1 : ¬ x < 1) (h2 : ¬ (2 : Int32) < x) : ∃ k, 1 ≤ k ∧ k ≤ 2 ∧ x = nI k := by
  rcases in_or (n := 3) x (by decide) with ⟨k, hk, rfl⟩ | z
  · refine ⟨k, ?_, by omega, rfl⟩
    rcases Nat.lt_or_ge k 1 with y | y
    · exact absurd (nI_lt (b := 1) y (by decide)) h1
    · exact y
  · exfalso
    rw [i_lt] at h1 h2
    have a1 : (1 : Int32).toInt = 1 := rfl
    have a2 : (2 : Int32).toInt = 2 := rfl
    rcases z with z | z
    · rw [i_lt] at z
      have a0 : (0 : Int32).toInt = 0 := rfl
      omega
    · rw [i_le] at z
      have a3 : (nI 3).toInt = 3 := rfl
      omega
theorem xodds {n0 q b : Nat} {T : TP} {nr C m : Nat} {pm : Nat → Int32 × Nat} {s : Nat × List (Nat × Nat)} {x y z : Int32} {MX MY : Mem} (hn : 1700 ≤ n0) (h : RR n0 q b T nr C m pm s MX MY) : okP (fX11_odds n0 x y z MX) (fun u => XF scA MX u.2) := by
  obtain ⟨h1, h2, h3, h4, _⟩ := id h
  obtain ⟨o1, o2, o3, _⟩ := h1.2.2.2.1.2.1
  have hm := h2.1
  have e0 : ∀ {v : Int64}, okP (some (v, MX)) (fun u => XF scA MX u.2) := okP_some XF.r
  unfold fX11_odds
  rcases isCo h1 x with ⟨c, hc, rfl, e1, _⟩ | ⟨_, e1, _⟩
  · refine okP_be e1 (okP_f (show ¬ (1 : Int32) = 0 by decide) (okP_ite (fun _ => e0) (fun _ => okP_ite (fun _ => e0) (fun z1 => okP_ite (fun _ => e0) (fun z2 => ?_)))))
    obtain ⟨k, k1, k2, rfl⟩ := in12 z z1 z2
    refine okP_be (xbey h3 hm (by omega)) (okP_ite (fun z3 => okP_ite (fun _ => e0) (fun _ => okP_ite (fun _ => okP_ite (fun _ => okP_bnd (okP_ite (fun _ => e0) (fun _ => e0))) (fun _ => ?_)) (fun _ => e0))) (fun _ => e0))
    have z4 : ¬ 9999 - m < k := fun u => by
      have z3' : bI (9999 - m < k) = 0 := z3
      rw [bI_t u] at z3'
      exact absurd z3' (by decide)
    have f1 : XF noN MX (hld MX (nI c) (pm c).1 (nI (pm c).2) (nI m)) := hld_f
    have pO := h2.2.1 c hc
    refine okP_be (xlook h3 o2 hc) (okP_ite (fun _ => ?_) (fun z5 => ?_))
    · obtain ⟨⟨r, X⟩, a1, a2⟩ := xone (n0 := n0) (x1 := y) hn (h1.2.2.2.1.xf f1 nN31) (hld_p h3.1) ⟨by omega, pO.1, pO.2, by omega⟩ (by omega) h1.2.1
      exact okP_be a1 (okP_some (f1.tr a2).n)
    · have k3 : k = 2 := by
        rcases Nat.lt_or_ge k 2 with u | u
        · exact absurd (show nI k = 1 by rw [show k = 1 by omega]; rfl) z5
        · omega
      obtain ⟨⟨r, X⟩, a1, a2⟩ := xtwo (n0 := n0) (x1 := y) hn (h1.2.2.2.1.xf f1 nN31) (hld_p h3.1) ⟨by omega, pO.1, pO.2, by omega⟩ (by omega) h1.2.1
      exact okP_be a1 (okP_some (f1.tr a2).n)
  · exact okP_be e1 (okP_t rfl e0)
abbrev yoL (n0 : Nat) (k94 : Int32 → Int32 → Int32 → Int32 → Int32 → Int64 → Int32 → Mem → Option (Int64 × Mem)) : Nat → Int32 → Int32 → Int32 → Int32 → Int32 → Int64 → Int32 → Int64 → Int32 → Int32 → Mem → Option (Int64 × Mem) := loopN (bX12_odds_117 n0 k94) (fun _ _ _ _ _ _ _ _ _ _ _ => none)
theorem yo117 {n0 b c m n : Nat} {T : TP} {x2 x5 x8 : Int32} {y6 : Int64} {s : Nat × List (Nat × Nat)} {k94 : Int32 → Int32 → Int32 → Int32 → Int32 → Int64 → Int32 → Mem → Option (Int64 × Mem)} (hn : 1700 ≤ n0) (hc : c < T.nc) (hs : sOk T.nd s) (hm : m + n ≤ 9999) (h0 : 0 < T.nt) : ∀ w j (y9 : Int64) v M (pm : Nat → Int32 × Nat), j ≤ n → n < w + j → v ≤ 1000 → YT n0 b T M → LyD 1 T.nc (m + j) pm s M → PsO T.nt T.nc pm → n ≤ 2 → ∃ y M', yoL n0 k94 w (nI c) x2 (nI n) (nI (T.nc * T.nt)) x5 y6 x8 y9 (nI v) (nI j) M = k94 (nI c) x2 (nI n) (nI (T.nc * T.nt)) x5 y (x8 + 1) M' ∧ YF (lP 1) M M'
  | 0, j, _, _, _, _, hj, hw, _, _, _, _, _ => by omega
  | w + 1, j, y9, v, M, pm, hj, hw, hv, hY, hL, hO, h2 => by
    show ∃ y M', bX12_odds_117 n0 k94 (yoL n0 k94 w) (nI c) x2 (nI n) (nI (T.nc * T.nt)) x5 y6 x8 y9 (nI v) (nI j) M = _ ∧ _
    obtain ⟨o1, o2, o3, _⟩ := hY.2.1
    have hl := hs.l
    have w30 : T.nc * T.nt ≤ 30 := Nat.le_trans (Nat.mul_le_mul o2 o1) (by decide)
    unfold bX12_odds_117
    by_cases g : j = n
    · subst g
      by_cases z : x2 = -1
      · exact ⟨_, M, eq_t (Int32.le_refl _) (eq_t z rfl), YF.r⟩
      · obtain ⟨_, M2, e1, e2⟩ := yhr hY (v := 1) (by decide) hL.1 hO (by omega) hc
        by_cases u : nI (T.hF c (pm c).1 (pm c).2 (m + j)) = x2
        · exact ⟨_, M2, eq_t (Int32.le_refl _) (eq_f z (eq_b e1 (eq_t u rfl))), e2.y⟩
        · exact ⟨_, M2, eq_t (Int32.le_refl _) (eq_f z (eq_b e1 (eq_f u rfl))), e2.y⟩
    · have g1 : nI (T.nc * T.nt) + 1 = nI (T.nc * T.nt + 1) := nI_add _ 1
      have gd : ¬ nI (T.nc * T.nt + 1) = 0 := nI_ne0 (by omega) (by omega)
      have er : rem32 (nI v) (nI (T.nc * T.nt + 1)) = nI (v % (T.nc * T.nt + 1)) := rem_nI (by omega) (by omega)
      have ed : nI v / nI (T.nc * T.nt + 1) = nI (v / (T.nc * T.nt + 1)) := nI_div (by omega) (by omega)
      have hdv : v / (T.nc * T.nt + 1) ≤ 1000 := Nat.le_trans (Nat.div_le_self _ _) hv
      have hrv : v % (T.nc * T.nt + 1) < T.nc * T.nt + 1 := Nat.mod_lt _ (by omega)
      obtain ⟨M1, a1, a2, a3⟩ := ytickD (v := 1) hn hY (by decide) hL hO hs (by omega)
      have j1 : nI j + 1 = nI (j + 1) := nI_add j 1
      have fin : ∀ M2 (pm2 : Nat → Int32 × Nat), LyD 1 T.nc (m + j + 1) pm2 s M2 → PsO T.nt T.nc pm2 → YF (lP 1) M M2 → ∃ y M', fX12_odds_182 n0 k94 (yoL n0 k94 w) (nI c) x2 (nI n) (nI (T.nc * T.nt)) x5 y6 x8 y9 (nI (v / (T.nc * T.nt + 1))) (nI j) (nI (v % (T.nc * T.nt + 1))) M2 = k94 (nI c) x2 (nI n) (nI (T.nc * T.nt)) x5 y (x8 + 1) M' ∧ YF (lP 1) M M' := fun M2 pm2 L2 O2 f2 => by
        have Y2 := hY.yf f2 lP28
        have o13 : ¬ oob (gI M2 13) 2 := by rw [Y2.2.2.2.1]; exact nI_in (by have := Y2.2.2.1; omega) (by decide)
        unfold fX12_odds_182 fX12_odds_220
        by_cases z : nI (T.nc * T.nt) ≤ nI (v % (T.nc * T.nt + 1))
        · obtain ⟨y, M', b1, b2⟩ := yo117 hn hc hs hm h0 w (j + 1) (y9 * ((((100 : Int32) - (gA M2 13 (Int32.toNatClampNeg (gI M2 13)))) * nI (T.nc * T.nt))).toInt64) (v / (T.nc * T.nt + 1)) M2 pm2 (by omega) (by omega) hdv Y2 L2 O2 h2
          exact ⟨y, M', eq_t z (eq_f o13 (by rw [j1]; exact b1)), f2.tr b2⟩
        · obtain ⟨y, M', b1, b2⟩ := yo117 hn hc hs hm h0 w (j + 1) (y9 * (gA M2 13 (Int32.toNatClampNeg (gI M2 13))).toInt64) (v / (T.nc * T.nt + 1)) M2 pm2 (by omega) (by omega) hdv Y2 L2 O2 h2
          exact ⟨y, M', eq_f z (eq_f o13 (by rw [j1]; exact b1)), f2.tr b2⟩
      have Y1 := hY.yf a3 lP28
      have o13 : ¬ oob (gI M1 13) 2 := by rw [Y1.2.2.2.1]; exact nI_in (by have := Y1.2.2.1; omega) (by decide)
      have nt1 : gA M1 2 (Int32.toNatClampNeg (gI M1 13)) = nI T.nt := by
        rw [Y1.2.2.2.1, nI_clamp (by have := Y1.2.2.1; omega)]; exact Y1.2.2.2.2.1
      have O1 : PsO T.nt T.nc (nxP T (m + j) pm) := fun c hc => tk_ok (hO c hc)
      rw [g1, er, ed]
      by_cases z : T.nc * T.nt ≤ v % (T.nc * T.nt + 1)
      · obtain ⟨y, M', b1, b2⟩ := fin M1 _ a2 O1 a3
        exact ⟨y, M', eq_f (nI_ge (by omega) (by omega)) (eq_f gd (eq_n (eq_f gd (eq_n (eq_b a1 (eq_t (nI_le z (by omega)) b1)))))), b2⟩
      · have q1 : v % (T.nc * T.nt + 1) / T.nt < T.nc := (Nat.div_lt_iff_lt_mul h0).mpr (by omega)
        have q2 : v % (T.nc * T.nt + 1) % T.nt < T.nt := Nat.mod_lt _ h0
        have ntn : ¬ nI T.nt = 0 := nI_ne0 (by omega) (by omega)
        obtain ⟨M2, c1, c2, c3⟩ := yput1 (n0 := n0) (t := nI (v % (T.nc * T.nt + 1) % T.nt)) a2 o2 q1
        obtain ⟨y, M', b1, b2⟩ := fin M2 _ c2 (upP_ok O1 ⟨Or.inr ⟨_, q2, rfl⟩, Nat.zero_le _⟩) (a3.tr c3)
        refine ⟨y, M', eq_f (nI_ge (by omega) (by omega)) (eq_f gd (eq_n (eq_f gd (eq_n (eq_b a1 (eq_f (nI_ge (by omega) (by omega)) (eq_f o13 (eq_f (by rw [nt1]; exact ntn) (eq_f o13 (eq_f (by rw [nt1]; exact ntn) (eq_b (z := M2) ?_ b1))))))))))), b2⟩
        rw [nt1, nI_div (by omega) (by omega), rem_nI (by omega) (by omega)]
        exact c1
theorem yodds {n0 q b : Nat} {T : TP} {nr C m : Nat} {pm : Nat → Int32 × Nat} {s : Nat × List (Nat × Nat)} {x y z : Int32} {MX MY : Mem} (hn : 1700 ≤ n0) (h : RR n0 q b T nr C m pm s MX MY) : okP (fX12_odds n0 x y z MY) (fun u => YF scP MY u.2) := by
  obtain ⟨h1, h2, h3, h4, _⟩ := id h
  obtain ⟨o1, o2, o3, _⟩ := h1.2.2.2.1.2.1
  have hm := h2.1
  have hl := h2.2.2.l
  have Y := h1.2.2.2.2.1
  have hb := Y.2.2.1
  have h13 := Y.2.2.2.1
  have o13 : ¬ oob (gI MY 13) 2 := by rw [h13]; exact nI_in (by omega) (by decide)
  have yq : gA MY 2 (gI MY 13).toNatClampNeg = nI T.nt := by rw [h13, nI_clamp (by omega)]; exact Y.2.2.2.2.1
  have yc : gA MY 5 (gI MY 13).toNatClampNeg = nI T.nc := by rw [h13, nI_clamp (by omega)]; exact Y.2.2.2.2.2.1
  have w30 : T.nc * T.nt ≤ 30 := Nat.le_trans (Nat.mul_le_mul o2 o1) (by decide)
  have e0 : ∀ {v : Int64}, okP (some (v, MY)) (fun u => YF scP MY u.2) := okP_some YF.r
  unfold fX12_odds
  rcases isCo h1 x with ⟨c, hc, rfl, _, e2⟩ | ⟨_, _, e2⟩
  · refine okP_be e2 (okP_f (show ¬ (1 : Int32) = 0 by decide) (okP_f o13 (okP_ite (fun _ => e0) (fun z0 => ?_))))
    have h0 : 0 < T.nt := Nat.pos_of_ne_zero (fun u => z0 (by show gA MY 2 _ = 0; rw [yq, u]; rfl))
    have ei : ∃ r, fX12_is n0 y (-1) 23 MY = some (r, MY) := by
      unfold fX12_is
      by_cases u : y < -1
      · exact ⟨_, eq_t u rfl⟩
      · by_cases u2 : (23 : Int32) < y
        · exact ⟨_, eq_f u (eq_t u2 rfl)⟩
        · exact ⟨_, eq_f u (eq_f u2 rfl)⟩
    obtain ⟨r, ei⟩ := ei
    refine okP_be ei (okP_ite (fun _ => e0) (fun _ => ?_))
    rcases yah (n0 := n0) (lo := 1) (hi := 2) z h4.1.1 hm (by decide) (by decide) with ⟨n, n1, n2, n3, rfl, e⟩ | ⟨_, e⟩
    · refine okP_be e (okP_f (show ¬ (1 : Int32) = 0 by decide) (okP_f o13 (okP_f o13 ?_)))
      have ew : gA MY 5 (Int32.toNatClampNeg (gI MY 13)) * gA MY 2 (Int32.toNatClampNeg (gI MY 13)) = nI (T.nc * T.nt) := by rw [yc, yq, nI_mul]
      have lp : ∀ W, W ≤ 1000 → okP (fX12_odds_86 n0 (nI c) y (nI n) (nI (T.nc * T.nt)) (nI W) MY) (fun u => YF scP MY u.2) := fun W hW => by
        unfold fX12_odds_86
        refine lpG (L := fun w k (u : Int64 × Mem) => loopN (bX12_odds_94 n0) (fun _ _ _ _ _ _ _ _ => none) w (nI c) y (nI n) (nI (T.nc * T.nt)) (nI W) u.1 (nI k) u.2) (n := W) (I := fun u => YF (lP 1) MY u.2) (fun w k u hk hu => Or.inr ?_) (fun w u hu => ?_) n0 0 (0, MY) (by omega) (by omega) YF.r
        · show ∃ s', bX12_odds_94 n0 (loopN (bX12_odds_94 n0) (fun _ _ _ _ _ _ _ _ => none) w) (nI c) y (nI n) (nI (T.nc * T.nt)) (nI W) u.1 (nI k) u.2 = _ ∧ _
          have L0 : LyD 0 T.nc m pm s u.2 := h4.fr hu o2 (by omega) (fun a i z y => by unfold lP tP dP at z; unfold lP tP dP at y; omega)
          obtain ⟨Y1, b1, b2, b3⟩ := ycopyD (n0 := n0) (v := 1) (u := 0) hn (by decide) (by decide) (by decide) o2 (by omega) L0
          obtain ⟨v', Y2, c1, c2⟩ := yo117 (n0 := n0) (x2 := y) (x5 := nI W) (x8 := nI k) (y6 := u.1) (k94 := loopN (bX12_odds_94 n0) (fun _ _ _ _ _ _ _ _ => none) w) hn hc h2.2.2 n3 h0 n0 0 1 k Y1 pm (by omega) (by omega) (by omega) (Y.yf (hu.tr b3) lP28) b2 h2.2.1 n2
          refine ⟨(v', Y2), ?_, (hu.tr b3).tr c2⟩
          unfold bX12_odds_94
          refine eq_f (nI_ge hk (by omega)) (eq_b b1 (Eq.trans c1 ?_))
          rw [show nI k + 1 = nI (k + 1) from nI_add k 1]
          rfl
        · show okP (bX12_odds_94 n0 (loopN (bX12_odds_94 n0) (fun _ _ _ _ _ _ _ _ => none) w) (nI c) y (nI n) (nI (T.nc * T.nt)) (nI W) u.1 (nI W) u.2) _
          unfold bX12_odds_94
          exact okP_t (Int32.le_refl _) (okP_some (lsc hu))
      show okP (if nI n = 1 then fX12_odds_86 n0 (nI c) y (nI n) (gA MY 5 (Int32.toNatClampNeg (gI MY 13)) * gA MY 2 (Int32.toNatClampNeg (gI MY 13))) (gA MY 5 (Int32.toNatClampNeg (gI MY 13)) * gA MY 2 (Int32.toNatClampNeg (gI MY 13)) + 1) MY else fX12_odds_86 n0 (nI c) y (nI n) (gA MY 5 (Int32.toNatClampNeg (gI MY 13)) * gA MY 2 (Int32.toNatClampNeg (gI MY 13))) ((gA MY 5 (Int32.toNatClampNeg (gI MY 13)) * gA MY 2 (Int32.toNatClampNeg (gI MY 13)) + 1) * (gA MY 5 (Int32.toNatClampNeg (gI MY 13)) * gA MY 2 (Int32.toNatClampNeg (gI MY 13)) + 1)) MY) _
      rw [ew, show nI (T.nc * T.nt) + 1 = nI (T.nc * T.nt + 1) from nI_add _ 1, nI_mul]
      exact okP_ite (fun _ => lp _ (by omega)) (fun _ => lp _ (Nat.le_trans (Nat.mul_le_mul (show T.nc * T.nt + 1 ≤ 31 by omega) (show T.nc * T.nt + 1 ≤ 31 by omega)) (by decide)))
    · exact okP_be e (okP_t rfl e0)
  · exact okP_be e2 (okP_t rfl e0)
theorem nOdds {n0 : Nat} {x y z : Int32} {MX MY : Mem} (hn : 1700 ≤ n0) (h : R n0 MX MY) : CalL n0 (fX11_odds n0 x y z MX) (fX12_odds n0 x y z MY) := by
  obtain ⟨q, b, T, nr, C, m, pm, s, h⟩ := h
  exact CalL.scr h (xodds hn h) (yodds hn h)
end
section
/-! PLANS COME TO AN END, BY THE CLASS -/
abbrev xpTL (n0 : Nat) : Nat → Int32 → Int32 → Int32 → Mem → Option (Int32 × Mem) := loopN (bX11_tellsWithin_3 n0) (fun _ _ _ _ => none)
theorem xtells {n0 last : Nat} {x1 : Int32} {M : Mem} (hl : last ≤ 60) : ∀ w k, k ≤ last + 1 → last + 1 < w + k → ∃ r, xpTL n0 w x1 (nI last) (nI k) M = some (r, M)
  | 0, k, hk, hw => by omega
  | w + 1, k, hk, hw => by
    show ∃ r, bX11_tellsWithin_3 n0 (xpTL n0 w) x1 (nI last) (nI k) M = _
    unfold bX11_tellsWithin_3
    by_cases g : k = last + 1
    · exact ⟨_, eq_t (nI_lt (by omega) (by omega)) rfl⟩
    · by_cases z : gA M 26 (Int32.toNatClampNeg (nI k)) = x1
      · exact ⟨_, eq_f (fun z => by have := (nI_ltI (a := last) (b := k) (by omega) (by omega)).mp z; omega) (eq_f (nI_in (by omega) (by decide)) (eq_t z rfl))⟩
      · obtain ⟨r, e⟩ := xtells (n0 := n0) (x1 := x1) (M := M) hl w (k + 1) (by omega) (by omega)
        exact ⟨r, eq_f (fun z => by have := (nI_ltI (a := last) (b := k) (by omega) (by omega)).mp z; omega) (eq_f (nI_in (by omega) (by decide)) (eq_f z (by rw [show nI k + 1 = nI (k + 1) from nI_add k 1]; exact e)))⟩
abbrev xpDL (n0 : Nat) : Nat → Int32 → Int32 → Int32 → Int32 → Int32 → Mem → Option (Int32 × Mem) := loopN (bX11_doesAll_3 n0) (fun _ _ _ _ _ _ => none)
theorem xdoes {n0 q last lo : Nat} {x1 x2 : Int32} {T : TP} {M : Mem} (hn : 1700 ≤ n0) (hT : XT n0 q T M) (h1 : gR M 1 = q) (hl : last ≤ 60) (hlo : lo ≤ last + 1) : ∀ w k, k ≤ T.nd → T.nd < w + k → ∃ r, xpDL n0 w x1 x2 (nI lo) (nI last) (nI k) M = some (r, M) ∧ (r = 0 ∨ r = 1)
  | 0, k, hk, hw => by omega
  | w + 1, k, hk, hw => by
    show ∃ r, bX11_doesAll_3 n0 (xpDL n0 w) x1 x2 (nI lo) (nI last) (nI k) M = _ ∧ _
    have o3 := hT.2.1.2.2.1
    have en : gI M (128 * gR M 1 + 12) = nI T.nd := by rw [h1]; exact hT.2.2.2.1
    unfold bX11_doesAll_3
    by_cases g : k = T.nd
    · exact ⟨_, eq_t (by rw [en, g]; exact Int32.le_refl _) rfl, Or.inr rfl⟩
    · obtain ⟨r, e, er⟩ := xdoes (n0 := n0) (x1 := x1) (x2 := x2) hn hT h1 hl hlo w (k + 1) (by omega) (by omega)
      have o : ¬ oob (nI k) 6 := nI_in (by omega) (by decide)
      have nx : fX11_doesAll_86 n0 (xpDL n0 w) x1 x2 (nI lo) (nI last) (nI k) M = some (r, M) := by
        unfold fX11_doesAll_86
        rw [show nI k + 1 = nI (k + 1) from nI_add k 1]
        exact e
      have n43 : fX11_doesAll_43 n0 (xpDL n0 w) x1 x2 (nI lo) (nI last) (nI k) M = some (r, M) := by
        unfold fX11_doesAll_43 fX11_doesAll_44
        exact eq_t rfl nx
      have n44 : ∃ r, fX11_doesAll_44 n0 (xpDL n0 w) x1 x2 (nI lo) (nI last) (nI k) 1 M = some (r, M) ∧ (r = 0 ∨ r = 1) := by
        unfold fX11_doesAll_44
        by_cases z : gA M 13 (Int32.toNatClampNeg (nI k)) = 0
        · obtain ⟨r', e'⟩ := xtells (n0 := n0) (x1 := gA M (gR M 1 + 11) (Int32.toNatClampNeg (nI k))) (M := M) hl n0 lo hlo (by omega)
          have e2 : fX11_tellsWithin n0 (gA M (gR M 1 + 11) (Int32.toNatClampNeg (nI k))) (nI lo) (nI last) M = some (r', M) := e'
          by_cases z2 : r' = 0
          · exact ⟨0, eq_f (show ¬ (1 : Int32) = 0 by decide) (eq_f o (eq_t z (eq_f o (eq_b e2 (eq_t z2 rfl))))), Or.inl rfl⟩
          · exact ⟨r, eq_f (show ¬ (1 : Int32) = 0 by decide) (eq_f o (eq_t z (eq_f o (eq_b e2 (eq_f z2 nx))))), er⟩
        · exact ⟨r, eq_f (show ¬ (1 : Int32) = 0 by decide) (eq_f o (eq_f z nx)), er⟩
      have ng : ¬ gI M (128 * gR M 1 + 12) ≤ nI k := by rw [en]; exact nI_ge (by omega) (by omega)
      by_cases z : ((x2 >>> (nI k &&& 31)) &&& (1 : Int32)) = 1
      · by_cases z2 : gA M (gR M 1 + 10) (Int32.toNatClampNeg (nI k)) = x1
        · obtain ⟨r', e', er'⟩ := n44
          exact ⟨r', eq_f ng (eq_t z (eq_f o (eq_t z2 e'))), er'⟩
        · exact ⟨r, eq_f ng (eq_t z (eq_f o (eq_f z2 n43))), er⟩
      · exact ⟨r, eq_f ng (eq_f z n43), er⟩
/-- what plans stand on, and what they leave -/
def PlI (n0 q : Nat) (T : TP) (m : Nat) (pm : Nat → Int32 × Nat) (s : Nat × List (Nat × Nat)) (M0 M : Mem) : Prop := XF scA M0 M ∧ XT n0 q T M ∧ SX q T.nc T.nd m pm s M ∧ gR M 1 = q
theorem PlI.fr {n0 q m : Nat} {T : TP} {pm : Nat → Int32 × Nat} {s : Nat × List (Nat × Nat)} {M0 M M' : Mem} (h : PlI n0 q T m pm s M0 M) (f : XF scA M M') : PlI n0 q T m pm s M0 M' := ⟨h.1.tr f, h.2.1.xf f scA31, h.2.2.1.fr f (fun a z y => by unfold scA at z; unfold stA at y; omega), by rw [f.1]; exact h.2.2.2⟩
theorem xpalm {n0 q m c most lo h : Nat} {t x2 : Int32} {T : TP} {pm : Nat → Int32 × Nat} {s : Nat × List (Nat × Nat)} {M0 M : Mem} (hn : 1700 ≤ n0) (hm : m ≤ 9999) (hI : PlI n0 q T m pm s M0 M) (hc : c < T.nc) (hp : pOk T.nt (t, h)) (hmo : most ≤ 20) (hlo : lo ≤ 1) : ∃ r M1 M2, fX1_foresee n0 26 (nI most) (hld M (nI c) t (nI h) (nI m)) = some (r, M1) ∧ (∃ v, fX11_doesAll n0 (nI c) x2 (nI lo) r M1 = some (v, M2) ∧ (v = 0 ∨ v = 1)) ∧ PlI n0 q T m pm s M0 M2 := by
  have o2 := hI.2.1.2.1.2.1
  have o3 := hI.2.1.2.1.2.2.1
  have f1 : XF scA M (hld M (nI c) t (nI h) (nI m)) := hld_f
  obtain ⟨M2, e1, e2, e3⟩ := xfor (n0 := n0) (q1 := 26) (most := most) hn (hI.2.1.1.xf f1 scA31) (hld_p hI.2.2.1.1) (by omega) hp hm (by omega) (Or.inl rfl)
  have I2 := (hI.fr f1).fr (e3.wk (fun a z => by unfold scA; omega))
  obtain ⟨v, d1, d2⟩ := xdoes (n0 := n0) (lo := lo) (last := min most (9999 - m)) (x1 := nI c) (x2 := x2) hn I2.2.1 I2.2.2.2 (by omega) (by omega) n0 0 (by omega) (by omega)
  exact ⟨_, M2, M2, e1, ⟨v, d1, d2⟩, I2⟩
theorem xwith {n0 q m c most lo : Nat} {x2 : Int32} {T : TP} {pm : Nat → Int32 × Nat} {s : Nat × List (Nat × Nat)} {M0 M : Mem} (hn : 1700 ≤ n0) (hm : m ≤ 9999) (hO : PsO T.nt T.nc pm) (hI : PlI n0 q T m pm s M0 M) (hc : c < T.nc) (hmo : most ≤ 20) (hlo : lo ≤ 1) : okP (fX11_doesWithout n0 (nI c) x2 (nI lo) (nI most) M) (fun z => PlI n0 q T m pm s M0 z.2) := by
  have o2 := hI.2.1.2.1.2.1
  obtain ⟨r, M1, M2, e1, ⟨v, e2, e3⟩, I2⟩ := xpalm (n0 := n0) (x2 := x2) (lo := lo) hn hm hI hc (hO c hc) hmo hlo
  unfold fX11_doesWithout
  exact okP_be (xlook hI.2.2.1 o2 hc) (okP_be e1 (okP_be e2 (okP_t e3 (okP_some I2))))
abbrev xpFL (n0 : Nat) : Nat → Int32 → Int32 → Int32 → Int32 → Mem → Option (Int32 × Mem) := loopN (bX11_findGiving_3 n0) (fun _ _ _ _ _ => none)
theorem xfind {n0 q m c most : Nat} {x2 : Int32} {T : TP} {pm : Nat → Int32 × Nat} {s : Nat × List (Nat × Nat)} {M0 M : Mem} (hn : 1700 ≤ n0) (hm : m ≤ 9999) (hI : PlI n0 q T m pm s M0 M) (hc : c < T.nc) (hmo : most ≤ 20) : okP (fX11_findGiving n0 (nI c) x2 (nI most) M) (fun z => PlI n0 q T m pm s M0 z.2) := by
  have o1 := hI.2.1.2.1.1
  refine lpG (L := fun w k u => xpFL n0 w (nI c) x2 (nI most) (nI k) u) (n := T.nt) (I := fun u => PlI n0 q T m pm s M0 u) (fun w k u hk hu => ?_) (fun w u hu => ?_) n0 0 M (by omega) (by omega) hI
  · show okP (bX11_findGiving_3 n0 (xpFL n0 w) (nI c) x2 (nI most) (nI k) u) _ ∨ ∃ s', bX11_findGiving_3 n0 (xpFL n0 w) (nI c) x2 (nI most) (nI k) u = _ ∧ _
    have en : gI u (128 * gR u 1 + 1) = nI T.nt := by rw [hu.2.2.2]; exact hu.2.1.1.2.2.1
    have ng : ¬ gI u (128 * gR u 1 + 1) ≤ nI k := by rw [en]; exact nI_ge (by omega) (by omega)
    have eh : fX1_hold n0 (nI c) (nI k) 0 (gI u 1281) u = some (hld u (nI c) (nI k) (nI 0) (nI m)) := by rw [hu.2.2.1.2.2.1]; exact xhold
    obtain ⟨r, M1, M2, e1, ⟨v, e2, e3⟩, I2⟩ := xpalm (n0 := n0) (x2 := x2) (lo := 0) (t := nI k) (h := 0) hn hm hu hc ⟨Or.inr ⟨k, hk, rfl⟩, Nat.zero_le _⟩ hmo (by decide)
    unfold bX11_findGiving_3
    by_cases z : v = 0
    · exact Or.inr ⟨M2, eq_f ng (eq_b eh (eq_b e1 (eq_b e2 (eq_t z (by rw [show nI k + 1 = nI (k + 1) from nI_add k 1]))))), I2⟩
    · exact Or.inl (okP_f ng (okP_be eh (okP_be e1 (okP_be e2 (okP_f z (okP_some I2))))))
  · show okP (bX11_findGiving_3 n0 (xpFL n0 w) (nI c) x2 (nI most) (nI T.nt) u) _
    have en : gI u (128 * gR u 1 + 1) = nI T.nt := by rw [hu.2.2.2]; exact hu.2.1.1.2.2.1
    unfold bX11_findGiving_3
    exact okP_t (by rw [en]; exact Int32.le_refl _) (okP_some hu)
theorem PlI.a28 {n0 q m i : Nat} {v : Int32} {T : TP} {pm : Nat → Int32 × Nat} {s : Nat × List (Nat × Nat)} {M0 M : Mem} (h : PlI n0 q T m pm s M0 M) : PlI n0 q T m pm s M0 (sA M 28 i v) := h.fr (XF.r.a (by unfold scA; omega))
theorem PlI.nc {n0 q m : Nat} {T : TP} {pm : Nat → Int32 × Nat} {s : Nat × List (Nat × Nat)} {M0 M : Mem} (h : PlI n0 q T m pm s M0 M) : gI M (128 * gR M 1 + 5) = nI T.nc := by rw [h.2.2.2]; exact h.2.1.2.2.1
theorem xnoth {n0 q m most : Nat} {x1 : Int32} {T : TP} {pm : Nat → Int32 × Nat} {s : Nat × List (Nat × Nat)} {M0 M : Mem} (hn : 1700 ≤ n0) (hm : m ≤ 9999) (hO : PsO T.nt T.nc pm) (hI : PlI n0 q T m pm s M0 M) (hmo : most ≤ 20) : okP (fX11_planNothing n0 x1 (nI most) M) (fun z => PlI n0 q T m pm s M0 z.2) := by
  have o2 := hI.2.1.2.1.2.1
  have l28 : ∀ M1, PlI n0 q T m pm s M0 M1 → okP (fX11_planNothing_28 n0 x1 (nI most) 0 M1) (fun z => PlI n0 q T m pm s M0 z.2) := fun M1 I1 => by
    refine lpG (L := fun w k u => loopN (bX11_planNothing_28 n0) (fun _ _ _ _ => none) w x1 (nI most) (nI k) u) (n := T.nc) (I := fun u => PlI n0 q T m pm s M0 u) (fun w k u hk hu => ?_) (fun w u hu => ?_) n0 0 M1 (by omega) (by omega) I1
    · show okP (bX11_planNothing_28 n0 (loopN (bX11_planNothing_28 n0) (fun _ _ _ _ => none) w) x1 (nI most) (nI k) u) _ ∨ ∃ s', bX11_planNothing_28 n0 (loopN (bX11_planNothing_28 n0) (fun _ _ _ _ => none) w) x1 (nI most) (nI k) u = _ ∧ _
      have ng : ¬ gI u (128 * gR u 1 + 5) ≤ nI k := by rw [hu.nc]; exact nI_ge (by omega) (by omega)
      obtain ⟨⟨r, M2⟩, e1, I2⟩ := xwith (n0 := n0) (x2 := x1) (lo := 1) hn hm hO hu hk hmo (by decide)
      unfold bX11_planNothing_28
      by_cases z : r = 0
      · exact Or.inl (okP_f ng (okP_be e1 (okP_t z (okP_some I2))))
      · exact Or.inr ⟨M2, eq_f ng (eq_b e1 (eq_f z (by rw [show nI k + 1 = nI (k + 1) from nI_add k 1]))), I2⟩
    · show okP (bX11_planNothing_28 n0 (loopN (bX11_planNothing_28 n0) (fun _ _ _ _ => none) w) x1 (nI most) (nI T.nc) u) _
      unfold bX11_planNothing_28
      exact okP_t (by rw [hu.nc]; exact Int32.le_refl _) (okP_some hu)
  refine lpG (L := fun w k u => loopN (bX11_planNothing_2 n0) (fun _ _ _ _ => none) w x1 (nI most) (nI k) u) (n := T.nc) (I := fun u => PlI n0 q T m pm s M0 u) (fun w k u hk hu => Or.inr ?_) (fun w u hu => ?_) n0 0 M (by omega) (by omega) hI
  · show ∃ s', bX11_planNothing_2 n0 (loopN (bX11_planNothing_2 n0) (fun _ _ _ _ => none) w) x1 (nI most) (nI k) u = _ ∧ _
    have ng : ¬ gI u (128 * gR u 1 + 5) ≤ nI k := by rw [hu.nc]; exact nI_ge (by omega) (by omega)
    refine ⟨sA u 28 (Int32.toNatClampNeg (nI k)) (-1), ?_, hu.a28⟩
    unfold bX11_planNothing_2
    exact eq_f ng (eq_f (nI_in (by omega) (by decide)) (eq_n (by rw [show nI k + 1 = nI (k + 1) from nI_add k 1])))
  · show okP (bX11_planNothing_2 n0 (loopN (bX11_planNothing_2 n0) (fun _ _ _ _ => none) w) x1 (nI most) (nI T.nc) u) _
    unfold bX11_planNothing_2
    exact okP_t (by rw [hu.nc]; exact Int32.le_refl _) (l28 u hu)
theorem xneed {n0 q m most : Nat} {x1 : Int32} {T : TP} {pm : Nat → Int32 × Nat} {s : Nat × List (Nat × Nat)} {M0 M : Mem} (hn : 1700 ≤ n0) (hm : m ≤ 9999) (hO : PsO T.nt T.nc pm) (hI : PlI n0 q T m pm s M0 M) (hmo : most ≤ 20) : okP (fX11_planNeeded n0 x1 (nI most) M) (fun z => PlI n0 q T m pm s M0 z.2) := by
  have o2 := hI.2.1.2.1.2.1
  refine lpG (L := fun w k u => loopN (bX11_planNeeded_2 n0) (fun _ _ _ _ => none) w x1 (nI most) (nI k) u) (n := T.nc) (I := fun u => PlI n0 q T m pm s M0 u) (fun w k u hk hu => ?_) (fun w u hu => ?_) n0 0 M (by omega) (by omega) hI
  · show okP (bX11_planNeeded_2 n0 (loopN (bX11_planNeeded_2 n0) (fun _ _ _ _ => none) w) x1 (nI most) (nI k) u) _ ∨ ∃ s', bX11_planNeeded_2 n0 (loopN (bX11_planNeeded_2 n0) (fun _ _ _ _ => none) w) x1 (nI most) (nI k) u = _ ∧ _
    have ng : ¬ gI u (128 * gR u 1 + 5) ≤ nI k := by rw [hu.nc]; exact nI_ge (by omega) (by omega)
    have o : ¬ oob (nI k) 5 := nI_in (by omega) (by decide)
    have k1 : nI k + 1 = nI (k + 1) := nI_add k 1
    obtain ⟨⟨r, M2⟩, e1, I2⟩ := xwith (n0 := n0) (x2 := x1) (lo := 0) hn hm hO hu hk hmo (by decide)
    unfold bX11_planNeeded_2 fX11_planNeeded_49
    by_cases z : r = 0
    · obtain ⟨⟨r2, M3⟩, e2, I3⟩ := xfind (n0 := n0) (x2 := x1) hn hm I2 hk hmo
      have I4 : PlI n0 q T m pm s M0 (sA M3 28 (Int32.toNatClampNeg (nI k)) r2) := PlI.a28 I3
      by_cases z2 : gA (sA M3 28 (Int32.toNatClampNeg (nI k)) r2) 28 (Int32.toNatClampNeg (nI k)) = -1
      · exact Or.inl (okP_f ng (okP_be e1 (okP_t z (okP_be e2 (okP_f o (okP_bnd (okP_f o (okP_t z2 (okP_some I4)))))))))
      · exact Or.inr ⟨_, eq_f ng (eq_b e1 (eq_t z (eq_b e2 (eq_f o (eq_n (eq_f o (eq_f z2 (by rw [k1])))))))), I4⟩
    · exact Or.inr ⟨M2, eq_f ng (eq_b e1 (eq_f z (by rw [k1]))), I2⟩
  · show okP (bX11_planNeeded_2 n0 (loopN (bX11_planNeeded_2 n0) (fun _ _ _ _ => none) w) x1 (nI most) (nI T.nc) u) _
    unfold bX11_planNeeded_2
    exact okP_t (by rw [hu.nc]; exact Int32.le_refl _) (okP_some hu)
theorem xcnt {n0 q m : Nat} {T : TP} {pm : Nat → Int32 × Nat} {s : Nat × List (Nat × Nat)} {M0 M : Mem} (hn : 1700 ≤ n0) (hI : PlI n0 q T m pm s M0 M) : ∃ r, fX11_countPlanned n0 M = some (r, M) := by
  have o2 := hI.2.1.2.1.2.1
  have l : okP (fX11_countPlanned n0 M) (fun z => z.2 = M) := by
    refine lpG (L := fun w k (u : Int32) => loopN (bX11_countPlanned_4 n0) (fun _ _ _ => none) w u (nI k) M) (n := T.nc) (I := fun _ => True) (fun w k u hk _ => Or.inr ?_) (fun w u _ => ?_) n0 0 (0 : Int32) (by omega) (by omega) trivial
    · show ∃ s', bX11_countPlanned_4 n0 (loopN (bX11_countPlanned_4 n0) (fun _ _ _ => none) w) u (nI k) M = _ ∧ _
      have ng : ¬ gI M (128 * gR M 1 + 5) ≤ nI k := by rw [hI.nc]; exact nI_ge (by omega) (by omega)
      have k1 : nI k + 1 = nI (k + 1) := nI_add k 1
      unfold bX11_countPlanned_4 fX11_countPlanned_28
      by_cases z : gA M 28 (Int32.toNatClampNeg (nI k)) = -1
      · exact ⟨u, eq_f ng (eq_f (nI_in (by omega) (by decide)) (eq_t z (by rw [k1]))), trivial⟩
      · exact ⟨u + 1, eq_f ng (eq_f (nI_in (by omega) (by decide)) (eq_f z (by rw [k1]))), trivial⟩
    · show okP (bX11_countPlanned_4 n0 (loopN (bX11_countPlanned_4 n0) (fun _ _ _ => none) w) u (nI T.nc) M) _
      unfold bX11_countPlanned_4
      exact okP_t (by rw [hI.nc]; exact Int32.le_refl _) (okP_some rfl)
  obtain ⟨⟨r, M'⟩, a, e⟩ := l
  have e' : M' = M := e
  exact ⟨r, by rw [a, e']⟩
theorem nI_dn (k : Nat) : nI k + (-1 : Int32) = nI k - 1 := by rw [Int32.sub_eq_add_neg]
abbrev xpAL (n0 : Nat) : Nat → Int32 → Int32 → Int32 → Mem → Option (Int32 × Mem) := loopN (bX11_planAnywhere_10 n0) (fun _ _ _ _ => none)
theorem xanyw {n0 q m most : Nat} {x1 : Int32} {T : TP} {pm : Nat → Int32 × Nat} {s : Nat × List (Nat × Nat)} {M0 : Mem} (hn : 1700 ≤ n0) (hm : m ≤ 9999) (hmo : most ≤ 20) : ∀ w k M, k < w → k ≤ T.nc → PlI n0 q T m pm s M0 M → okP (xpAL n0 w x1 (nI most) (nI k - 1) M) (fun z => PlI n0 q T m pm s M0 z.2)
  | 0, k, M, hw, _, _ => by omega
  | w + 1, 0, M, hw, hk, hI => by
    show okP (bX11_planAnywhere_10 n0 (xpAL n0 w) x1 (nI most) (nI 0 - 1) M) _
    unfold bX11_planAnywhere_10
    exact okP_t (by decide) (okP_some hI)
  | w + 1, k + 1, M, hw, hk, hI => by
    show okP (bX11_planAnywhere_10 n0 (xpAL n0 w) x1 (nI most) (nI (k + 1) - 1) M) _
    have o2 := hI.2.1.2.1.2.1
    have e0 : nI (k + 1) - 1 = nI k := by rw [show (1 : Int32) = nI 1 from rfl, nI_subN (by omega)]; rfl
    have o : ¬ oob (nI k) 5 := nI_in (by omega) (by decide)
    rw [e0]
    obtain ⟨⟨r2, M3⟩, e2, I3⟩ := xfind (n0 := n0) (x2 := x1) hn hm hI (show k < T.nc by omega) hmo
    have I4 : PlI n0 q T m pm s M0 (sA M3 28 (Int32.toNatClampNeg (nI k)) r2) := PlI.a28 I3
    unfold bX11_planAnywhere_10
    refine okP_f (nI_nn (by omega)) (okP_be e2 (okP_f o (okP_bnd (okP_f o (okP_ite (fun _ => ?_) (fun _ => okP_some I4))))))
    rw [nI_dn]
    exact xanyw hn hm hmo w k _ (by omega) (by omega) I4
theorem xplan {n0 q b : Nat} {T : TP} {nr C m : Nat} {pm : Nat → Int32 × Nat} {s : Nat × List (Nat × Nat)} {x y z : Int32} {MX MY : Mem} (hn : 1700 ≤ n0) (h : RR n0 q b T nr C m pm s MX MY) : okP (fX11_plan n0 x y z MX) (fun u => XF scA MX u.2) := by
  obtain ⟨h1, h2, h3, h4, _⟩ := id h
  obtain ⟨o1, o2, o3, _⟩ := h1.2.2.2.1.2.1
  have hm := h2.1
  have e0 : ∀ {v : Int32}, okP (some (v, MX)) (fun u => XF scA MX u.2) := okP_some XF.r
  have I0 : PlI n0 q T m pm s MX MX := ⟨XF.r, h1.2.2.2.1, h3, h1.2.1⟩
  unfold fX11_plan
  refine okP_ite (fun _ => e0) (fun _ => okP_ite (fun _ => e0) (fun _ => okP_ite (fun _ => e0) (fun z1 => okP_ite (fun _ => e0) (fun z2 => ?_))))
  have ym : ∃ k, k ≤ 20 ∧ y = nI k := by
    rcases in_or (n := 21) y (by decide) with ⟨k, hk, rfl⟩ | u
    · exact ⟨k, by omega, rfl⟩
    · exfalso
      rcases u with u | u
      · exact z1 u
      · rw [i_lt] at z2
        rw [i_le] at u
        have a1 : (20 : Int32).toInt = 20 := rfl
        have a2 : (nI 21).toInt = 21 := rfl
        omega
  obtain ⟨mo, hmo, rfl⟩ := ym
  have n94 : ∀ (u0 : Int32) M, (z = -1 ∨ ∃ c, c < 5 ∧ z = nI c) → PlI n0 q T m pm s MX M → okP (fX11_plan_94 n0 z u0 M) (fun u => XF scA MX u.2) := fun u0 M hz hI => by
    obtain ⟨r, er⟩ := xcnt (n0 := n0) hn hI
    unfold fX11_plan_94
    refine okP_ite (fun _ => okP_some hI.1) (fun _ => okP_ite (fun _ => okP_be er (okP_some hI.1)) (fun z3 => ?_))
    rcases hz with hz | ⟨c, hc, rfl⟩
    · exact absurd hz z3
    · exact okP_f (nI_in hc (by decide)) (okP_some hI.1)
  have n55 : (z = -1 ∨ ∃ c, c < 5 ∧ z = nI c) → okP (fX11_plan_55 n0 x (nI mo) z MX) (fun u => XF scA MX u.2) := fun hz => by
    unfold fX11_plan_55 fX11_plan_89 fX11_plan_93
    refine okP_bind (xnoth hn hm h2.2.1 I0 hmo) (fun u1 I1 => okP_ite (fun _ => ?_) (fun _ => n94 _ _ hz I1))
    refine okP_bind (xneed hn hm h2.2.1 I1 hmo) (fun u2 I2 => okP_ite (fun _ => n94 _ _ hz I2) (fun _ => ?_))
    obtain ⟨r, er⟩ := xcnt (n0 := n0) hn I2
    refine okP_be er (okP_ite (fun _ => n94 _ _ hz I2) (fun _ => ?_))
    have ea : okP (fX11_planAnywhere n0 x (nI mo) u2.2) (fun u => PlI n0 q T m pm s MX u.2) := by
      unfold fX11_planAnywhere
      refine okP_bnd ?_
      rw [I2.nc]
      exact xanyw hn hm hmo n0 T.nc u2.2 (by omega) (Nat.le_refl _) I2
    exact okP_bind ea (fun u3 I3 => okP_ite (fun _ => n94 _ _ hz I3) (fun _ => n94 _ _ hz I3))
  refine okP_be (xbey h3 hm (by omega)) (okP_ite (fun _ => okP_ite (fun z3 => n55 (Or.inl z3)) (fun _ => ?_)) (fun _ => e0))
  rcases isCo h1 z with ⟨c, hc, rfl, e1, _⟩ | ⟨_, e1, _⟩
  · exact okP_be e1 (okP_f (show ¬ (1 : Int32) = 0 by decide) (n55 (Or.inr ⟨c, by omega, rfl⟩)))
  · exact okP_be e1 (okP_t rfl e0)
end
