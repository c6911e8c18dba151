/-! WAYS AND ARRIVALS ON BOTH SIDES -/
theorem RT.far {n0 q b : Nat} {T : TP} {nr C : Nat} {MX MY : Mem} (h : RT n0 q b T nr C MX MY) (h0 : 0 < T.nc) : ∃ S F A B V, S8 b S MY ∧ F9 b F MY ∧ InvF S 5 F ∧ RdS T.nc nr A B V S ∧ XRdV q nr A B V MX := by
  obtain ⟨c1, c2, c3⟩ := h.2.2.2.2.2.1.2.2.2.2.1
  obtain ⟨S, F, h8, h9, hI⟩ := h.2.2.2.2.2.2.2.2 h0
  have o2 : T.nc ≤ 5 := h.2.2.2.1.2.1.2.1
  obtain ⟨A, eA⟩ : ∃ A : Nat → Nat, ∀ k, A k = (gA MX (q + 6) k).toNatClampNeg := ⟨_, fun _ => rfl⟩
  obtain ⟨B, eB⟩ : ∃ B : Nat → Nat, ∀ k, B k = (gA MX (q + 7) k).toNatClampNeg := ⟨_, fun _ => rfl⟩
  obtain ⟨V, eV⟩ : ∃ V : Nat → Nat, ∀ k, V k = (gA MX (q + 8) k).toNatClampNeg := ⟨_, fun _ => rfl⟩
  have ex : ∀ k, k < nr → A k < T.nc ∧ B k < T.nc ∧ 1 ≤ V k ∧ V k ≤ 30 ∧ gA MX (q + 6) k = nI (A k) ∧ gA MX (q + 7) k = nI (B k) ∧ gA MX (q + 8) k = nI (V k) := fun k hk => by
    obtain ⟨a, c, v, a1, a2, a3, a4, a5, a6, a7⟩ := h.rd.2.2 k hk
    have xa : A k = a := by rw [eA, a5, nI_clamp (by omega)]
    have xb : B k = c := by rw [eB, a6, nI_clamp (by omega)]
    have xv : V k = v := by rw [eV, a7, nI_clamp (by omega)]
    rw [xa, xb, xv]
    exact ⟨a1, a2, a3, a4, a5, a6, a7⟩
  have uq : ∀ k, k < nr → ∀ a c, a < 5 → c < 5 → Jn (gA MX (q + 6)) (gA MX (q + 7)) k a c → S a c = V k := fun k hk a c ha hc g => by
    obtain ⟨_, _, _, v30, _, _, x8⟩ := ex k hk
    obtain ⟨s1, s2⟩ := h8 a c ha hc
    rcases c3.2.2 a c ha hc with ⟨_, z⟩ | ⟨k', k1, k2, k3, k4⟩
    · exact absurd g (z k hk)
    · have e : k = k' := k4 k hk g
      have e2 : nI (S a c) = nI (V k) := s1.symm.trans ((show gA MY 8 (25 * b + (5 * a + c)) = gA MX (q + 8) k by rw [e]; exact k3).trans x8)
      exact (nI_eq (by omega) (by omega)).mp e2
  refine ⟨S, F, A, B, V, h8, h9, hI, ⟨fun k hk => ?_, fun u v hu hv hs => ?_⟩, c1, c3.1, fun k hk => (ex k hk).2.2.2.2⟩
  · obtain ⟨x1, x2, x3, x4, x5, x6, x7⟩ := ex k hk
    exact ⟨x1, x2, x3, x4, uq k hk _ _ (by omega) (by omega) (Or.inl ⟨x5, x6⟩), uq k hk _ _ (by omega) (by omega) (Or.inr ⟨x5, x6⟩)⟩
  · have s8 := h8 u v hu hv
    rcases c3.2.2 u v hu hv with ⟨z, _⟩ | ⟨k, k1, k2, _⟩
    · have e2 : nI (S u v) = nI 0 := s8.1.symm.trans z
      have := (nI_eq (by omega) (by omega)).mp e2
      omega
    · obtain ⟨x1, x2, _, _, x5, x6, _⟩ := ex k k1
      refine ⟨k, k1, ?_⟩
      rcases k2 with ⟨g1, g2⟩ | ⟨g1, g2⟩
      · exact Or.inl ⟨(nI_eq (by omega) (by omega)).mp (x5.symm.trans g1), (nI_eq (by omega) (by omega)).mp (x6.symm.trans g2)⟩
      · exact Or.inr ⟨(nI_eq (by omega) (by omega)).mp (x5.symm.trans g1), (nI_eq (by omega) (by omega)).mp (x6.symm.trans g2)⟩
/-- one way on both sides -/
theorem bway {n0 q b a c : Nat} {T : TP} {nr C : Nat} {MX MY : Mem} (hn : 1700 ≤ n0) (h : RT n0 q b T nr C MX MY) (ha : a < T.nc) (hc : c < T.nc) (e2 : fX12_isCorner n0 (nI a) MY = some (1, MY)) (e4 : fX12_isCorner n0 (nI c) MY = some (1, MY)) : ∃ r X, fX10_stepsOf n0 q (nI a) (nI c) MX = some (r, X) ∧ XF scA MX X ∧ (r = -1 ∨ ∃ d, d < 100000000 ∧ r = nI d) ∧ fX12_way n0 (nI a) (nI c) MY = some (r, MY) := by
  have h13 := h.2.2.2.2.1.2.2.2.1
  have hb := h.2.2.2.2.1.2.2.1
  have o2 := h.2.2.2.1.2.1.2.1
  obtain ⟨S, F, A, B, V, h8, h9, hI, hR, hV⟩ := h.far (by omega)
  obtain ⟨X, x1, x2⟩ := xstepsV (n0 := n0) hn h.2.2.2.1 hV hR hI ha hc
  have l8 := hI.2.1 a c (by omega) (by omega)
  have ea : fX12_at n0 (gI MY 13) (nI a) (nI c) MY = some (nI (25 * b + 5 * a + c), MY) := by
    unfold fX12_at
    rw [h13, y25Ix]
  have oi : ¬ oob (nI (25 * b + 5 * a + c)) 50 := nI_in (by omega) (by decide)
  have v9 : gA MY 9 (nI (25 * b + 5 * a + c)).toNatClampNeg = nI (F a c) := by
    rw [nI_clamp (by omega), Nat.add_assoc]
    exact h9 a c (by omega) (by omega)
  refine ⟨_, X, x1, x2, ?_, ?_⟩
  · by_cases g : F a c < 100000000
    · rw [if_pos g]; exact Or.inr ⟨F a c, g, rfl⟩
    · rw [if_neg g]; exact Or.inl rfl
  · unfold fX12_way
    by_cases g : F a c < 100000000
    · rw [if_pos g]
      refine eq_b e2 (eq_f (show ¬ (1 : Int32) = 0 by decide) (eq_b e4 (eq_f (show ¬ (1 : Int32) = 0 by decide) (eq_b ea (eq_f oi (eq_f ?_ (eq_b ea (eq_f oi ?_))))))))
      · rw [v9]
        exact nI_ge (b := 100000000) g (by decide)
      · rw [v9]
    · rw [if_neg g]
      refine eq_b e2 (eq_f (show ¬ (1 : Int32) = 0 by decide) (eq_b e4 (eq_f (show ¬ (1 : Int32) = 0 by decide) (eq_b ea (eq_f oi (eq_t ?_ rfl))))))
      rw [v9]
      exact nI_le (a := 100000000) (by omega) (by omega)
theorem cWay {n0 : Nat} {x y : Int32} {MX MY : Mem} (hn : 1700 ≤ n0) (h : R n0 MX MY) : Cal n0 (fX11_way n0 x y MX) (fX12_way n0 x y MY) := by
  obtain ⟨q, b, T, nr, C, m, pm, s, h⟩ := h
  have h1 := h.1
  rcases isCo h1 x with ⟨a, ha, rfl, e1, e2⟩ | ⟨_, e1, e2⟩
  · rcases isCo h1 y with ⟨c, hc, rfl, e3, e4⟩ | ⟨_, e3, e4⟩
    · obtain ⟨r, X, x1, x2, _, y1⟩ := bway hn h1 ha hc e2 e4
      refine Cal.scr h ?_ y1 x2 YF.r
      unfold fX11_way
      exact eq_b e1 (eq_f (show ¬ (1 : Int32) = 0 by decide) (eq_b e3 (eq_f (show ¬ (1 : Int32) = 0 by decide) (eq_b (by rw [h1.2.1]; exact x1) rfl))))
    · refine Cal.scr (r := -1) (MX' := MX) (MY' := MY) h ?_ ?_ XF.r YF.r
      · unfold fX11_way
        exact eq_b e1 (eq_f (show ¬ (1 : Int32) = 0 by decide) (eq_b e3 (eq_t rfl rfl)))
      · unfold fX12_way
        exact eq_b e2 (eq_f (show ¬ (1 : Int32) = 0 by decide) (eq_b e4 (eq_t rfl rfl)))
  · refine Cal.scr (r := -1) (MX' := MX) (MY' := MY) h ?_ ?_ XF.r YF.r
    · unfold fX11_way
      exact eq_b e1 (eq_t rfl rfl)
    · unfold fX12_way
      exact eq_b e2 (eq_t rfl rfl)
theorem cArrive {n0 : Nat} {x y : Int32} {MX MY : Mem} (hn : 1700 ≤ n0) (h : R n0 MX MY) : Cal n0 (fX11_arrive n0 x y MX) (fX12_arrive n0 x y MY) := by
  obtain ⟨q, b, T, nr, C, m, pm, s, h⟩ := h
  have h1 := h.1
  rcases isCo h1 x with ⟨a, ha, rfl, e1, e2⟩ | ⟨_, e1, e2⟩
  · rcases isCo h1 y with ⟨c, hc, rfl, e3, e4⟩ | ⟨_, e3, e4⟩
    · obtain ⟨r, X, x1, x2, x3, y1⟩ := bway hn h1 ha hc e2 e4
      rcases x3 with rfl | ⟨d, d1, rfl⟩
      · refine Cal.scr (r := -1) (MX' := X) (MY' := MY) h ?_ ?_ x2 YF.r
        · unfold fX11_arrive
          exact eq_b e1 (eq_f (show ¬ (1 : Int32) = 0 by decide) (eq_b e3 (eq_f (show ¬ (1 : Int32) = 0 by decide) (eq_b (z := (-1, X)) (by rw [h1.2.1]; exact x1) (eq_t rfl rfl)))))
        · unfold fX12_arrive
          exact eq_b y1 (eq_t rfl rfl)
      · have hs := h.scr x2 (YF.r (P := scP) (M := MY))
        obtain ⟨r', MX', MY', l1, l2, l3⟩ := cLater (x := nI c) (y := nI d) hn ⟨q, b, T, nr, C, m, pm, s, hs⟩
        have e5 : fX9_isCorner n0 (gR X 1) (nI c) X = some (1, X) := by
          rw [hs.1.2.1]
          exact xCot hs.1.2.2.2.1.2.2.1 (by have := hs.1.2.2.2.1.2.1.2.1; omega) hc
        refine ⟨r', MX', MY', ?_, ?_, l3⟩
        · have t : fX11_later n0 (nI c) (nI d) X = (if (60 : Int32) < nI d then some ((-1 : Int32), X) else (fX11_isBeyond n0 (nI d) X).bind fun z23 => if z23.1 = 0 then (fX11_foresee n0 26 (nI c) (nI d) z23.2).bind fun z38 => if oob (nI d) 61 then none else some ((gA z38.2 26 (Int32.toNatClampNeg (nI d))), z38.2) else some ((-1 : Int32), z23.2)) := by
            unfold fX11_later
            exact eq_b e5 (eq_f (show ¬ (1 : Int32) = 0 by decide) (eq_f (nI_nn (by omega)) rfl))
          rw [t] at l1
          unfold fX11_arrive
          exact eq_b e1 (eq_f (show ¬ (1 : Int32) = 0 by decide) (eq_b e3 (eq_f (show ¬ (1 : Int32) = 0 by decide) (eq_b (z := (nI d, X)) (by rw [h1.2.1]; exact x1) (eq_f (nI_m1 (by omega)) l1)))))
        · unfold fX12_arrive
          exact eq_b y1 (eq_f (nI_m1 (by omega)) (eq_b l2 rfl))
    · refine Cal.scr (r := -1) (MX' := MX) (MY' := MY) h ?_ ?_ XF.r YF.r
      · unfold fX11_arrive
        exact eq_b e1 (eq_f (show ¬ (1 : Int32) = 0 by decide) (eq_b e3 (eq_t rfl rfl)))
      · unfold fX12_arrive fX12_way
        exact eq_b (z := (-1, MY)) (eq_b e2 (eq_f (show ¬ (1 : Int32) = 0 by decide) (eq_b e4 (eq_t rfl rfl)))) (eq_t rfl rfl)
  · refine Cal.scr (r := -1) (MX' := MX) (MY' := MY) h ?_ ?_ XF.r YF.r
    · unfold fX11_arrive
      exact eq_b e1 (eq_t rfl rfl)
    · unfold fX12_arrive fX12_way
      exact eq_b (z := (-1, MY)) (eq_b e2 (eq_t rfl rfl)) (eq_t rfl rfl)
