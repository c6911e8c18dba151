/-! A WAY'S STEPS BY THE CLASS: their value -/
def XRdV (q nr : Nat) (A B V : Nat → Nat) (M : Mem) : Prop := gI M (128 * q + 8) = nI nr ∧ nr ≤ 10 ∧ ∀ k, k < nr → gA M (q + 6) k = nI (A k) ∧ gA M (q + 7) k = nI (B k) ∧ gA M (q + 8) k = nI (V k)
theorem XRdV.tw {q nr : Nat} {A B V : Nat → Nat} {M M' : Mem} (h : XRdV q nr A B V M) (t : xTw q M M') : XRdV q nr A B V M' := ⟨(t.1 _ (by omega) (by omega)).trans h.1, h.2.1, fun k hk => by
  rw [t.2 _ (by omega) (by omega), t.2 _ (by omega) (by omega), t.2 _ (by omega) (by omega)]
  exact h.2.2 k hk⟩
def DV (d : Nat → Nat) (M : Mem) : Prop := ∀ j, j < 5 → gA M 19 j = nI (d j)
theorem xshortV {n0 a c v : Nat} {d : Nat → Nat} {M0 M : Mem} (ha : a < 5) (hc : c < 5) (hv : v ≤ 30) (hf : XF scA M0 M) (hd : DV d M) (hl : ∀ j, j < 5 → d j ≤ 1000000) : ∃ M', fX10_shorten n0 (nI a) (nI c) (nI v) M = some M' ∧ XF scA M0 M' ∧ DV (relx d a c v) M' := by
  have ca : (nI a).toNatClampNeg = a := nI_clamp (by omega)
  have cc : (nI c).toNatClampNeg = c := nI_clamp (by omega)
  have la := hl a ha
  have lc := hl c hc
  refine ⟨sA M 19 c (nI (min (d c) (d a + v))), ?_, hf.a (by unfold scA; omega), fun j hj => ?_⟩
  · unfold fX10_shorten
    simp only [ca, cc, hd a ha, hd c hc, nI_add]
    rw [imin_nI (by omega) (by omega)]
    exact eq_f (nI_in hc (by decide)) (eq_f (nI_in ha (by decide)) (eq_f (nI_in hc (by decide)) rfl))
  · rw [gA_sA, if_pos rfl]
    unfold relx
    by_cases z : j = c
    · rw [if_pos z, if_pos z]
    · rw [if_neg z, if_neg z]; exact hd j hj
theorem xstepsV {n0 q nr a c : Nat} {T : TP} {A B V : Nat → Nat} {S F : Nat → Nat → Nat} {M : Mem} (hn : 1700 ≤ n0) (hT : XT n0 q T M) (hV : XRdV q nr A B V M) (hR : RdS T.nc nr A B V S) (hI : InvF S 5 F) (ha : a < T.nc) (hc : c < T.nc) : ∃ M', fX10_stepsOf n0 q (nI a) (nI c) M = some (if F a c < 100000000 then nI (F a c) else -1, M') ∧ XF scA M M' := by
  obtain ⟨o1, o2, o3, _⟩ := hT.2.1
  have hq := hT.1.1
  have r10 := hV.2.1
  have tw : ∀ M', XF scA M M' → xTw q M M' := fun M' f => f.tw hq scA31
  -- one road after the other
  have l49 : ∀ (k37 : Int32 → Int32 → Mem → Option (Int32 × Mem)) (x4 : Int32) (r w k : Nat) (M1 : Mem) (d : Nat → Nat), k ≤ nr → nr < w + k → XF scA M M1 → DV d M1 → LBd F a d → URd S F A B a T.nc r k d → d a = 0 → ∃ M2 d', loopN (bX10_stepsOf_49 n0 q k37) (fun _ _ _ _ => none) w (nI c) x4 (nI k) M1 = k37 (nI c) (x4 + 1) M2 ∧ XF scA M M2 ∧ DV d' M2 ∧ LBd F a d' ∧ URd S F A B a T.nc r nr d' ∧ d' a = 0 := fun k37 x4 r w => by
    induction w with
    | zero => intro k M1 d hk hw; omega
    | succ w ih =>
      intro k M1 d hk hw hf hd hL hU h0
      show ∃ M2 d', bX10_stepsOf_49 n0 q k37 (loopN (bX10_stepsOf_49 n0 q k37) (fun _ _ _ _ => none) w) (nI c) x4 (nI k) M1 = _ ∧ _
      have Rs := hV.tw (tw M1 hf)
      by_cases g : k = nr
      · subst g
        refine ⟨M1, d, ?_, hf, hd, hL, hU, h0⟩
        unfold bX10_stepsOf_49
        exact eq_t (by rw [Rs.1]; exact Int32.le_refl _) rfl
      · have hk' : k < nr := by omega
        obtain ⟨a1, a2, a3, a4, a5, a6⟩ := hR.1 k hk'
        obtain ⟨b1, b2, b3⟩ := Rs.2.2 k hk'
        have ck : (nI k).toNatClampNeg = k := nI_clamp (by omega)
        have ok : ¬ oob (nI k) 10 := nI_in (by omega) (by decide)
        obtain ⟨s1, e1, f1, d1⟩ := xshortV (n0 := n0) (show A k < 5 by omega) (show B k < 5 by omega) a4 hf hd (fun j hj => (hL j hj).2)
        have L1 : LBd F a (relx d (A k) (B k) (V k)) := by
          have := LBd.relx (u := A k) (v := B k) hL hI (by omega) (by omega) (by omega) (by omega)
          rw [a5] at this
          exact this
        obtain ⟨b4, b5, b6⟩ := (hV.tw (tw s1 f1)).2.2 k hk'
        obtain ⟨s2, e2, f2, d2⟩ := xshortV (n0 := n0) (show B k < 5 by omega) (show A k < 5 by omega) a4 f1 d1 (fun j hj => (L1 j hj).2)
        have L2 : LBd F a (relx (relx d (A k) (B k) (V k)) (B k) (A k) (V k)) := by
          have := LBd.relx (u := B k) (v := A k) L1 hI (by omega) (by omega) (by omega) (by omega)
          rw [a6] at this
          exact this
        have z2 : relx (relx d (A k) (B k) (V k)) (B k) (A k) (V k) a = 0 := by
          have u1 : relx (relx d (A k) (B k) (V k)) (B k) (A k) (V k) a ≤ relx d (A k) (B k) (V k) a := relx_le
          have u2 : relx d (A k) (B k) (V k) a ≤ d a := relx_le
          omega
        obtain ⟨M2, d', g1, g2⟩ := ih (k + 1) s2 _ (by omega) (by omega) f2 d2 L2 (hU.step hR hk') z2
        refine ⟨M2, d', ?_, g2⟩
        unfold bX10_stepsOf_49
        refine eq_f (by rw [Rs.1]; exact nI_ge hk' (by omega)) (eq_f ok (eq_f ok (eq_f ok (eq_b (z := s1) (by rw [ck, b1, b2, b3]; exact e1) (eq_f ok (eq_f ok (eq_f ok (eq_b (z := s2) (by rw [ck, b4, b5, b6]; exact e2) ?_))))))))
        rw [show nI k + 1 = nI (k + 1) from nI_add k 1]
        exact g1
  -- round after round
  have l37 : ∀ (w r : Nat) (M1 : Mem) (d : Nat → Nat), r ≤ T.nc → T.nc < w + r → XF scA M M1 → DV d M1 → LBd F a d → UBd F a T.nc r d → d a = 0 → ∃ M', loopN (bX10_stepsOf_37 n0 q) (fun _ _ _ => none) w (nI c) (nI r) M1 = some (if F a c < 100000000 then nI (F a c) else -1, M') ∧ XF scA M M' := fun w => by
    induction w with
    | zero => intro r M1 d hr hw; omega
    | succ w ih =>
      intro r M1 d hr hw hf hd hL hU h0
      show ∃ M', bX10_stepsOf_37 n0 q (loopN (bX10_stepsOf_37 n0 q) (fun _ _ _ => none) w) (nI c) (nI r) M1 = _ ∧ _
      have Ts := (hT.tw (tw M1 hf)).2.2.1
      by_cases g : r = T.nc
      · have cc : (nI c).toNatClampNeg = c := nI_clamp (by omega)
        have oc : ¬ oob (nI c) 5 := nI_in (by omega) (by decide)
        have lc := hL c (by omega)
        refine ⟨M1, ?_, hf⟩
        unfold bX10_stepsOf_37
        by_cases y : F a c < 100000000
        · have rc : rkF (F a) (F a c) T.nc < T.nc := rk_n (Nat.lt_irrefl _) T.nc hc
          have u1 := hU c hc y (by omega)
          have u2 := finF hR hI o2 ha T.nc c hc y (by omega)
          have ed : d c = F a c := by omega
          rw [if_pos y]
          refine eq_t (by rw [Ts, g]; exact Int32.le_refl _) (eq_b (xCot Ts (by omega) hc) (eq_f (show ¬ (1 : Int32) = 0 by decide) (eq_f oc (eq_f ?_ (eq_f oc ?_)))))
          · rw [cc, hd c (by omega), ed]
            exact nI_ge (b := 1000000) (by omega) (by decide)
          · rw [cc, hd c (by omega), ed]
        · have ed : d c = 1000000 := by omega
          rw [if_neg y]
          exact eq_t (by rw [Ts, g]; exact Int32.le_refl _) (eq_b (xCot Ts (by omega) hc) (eq_f (show ¬ (1 : Int32) = 0 by decide) (eq_f oc (eq_t (by rw [cc, hd c (by omega), ed]; decide) rfl))))
      · obtain ⟨M2, d', e1, e2, e3, e4, e5, e6⟩ := l49 (loopN (bX10_stepsOf_37 n0 q) (fun _ _ _ => none) w) (nI r) r n0 0 M1 d (by omega) (by omega) hf hd hL ⟨hU, fun j _ _ _ ⟨k', _, z, _⟩ => by omega⟩ h0
        obtain ⟨M', i1, i2⟩ := ih (r + 1) M2 d' (by omega) (by omega) e2 e3 e4 (e5.fin hR hI o2 ha e6) e6
        refine ⟨M', ?_, i2⟩
        unfold bX10_stepsOf_37
        refine eq_f (by rw [Ts]; exact nI_ge (by omega) (by omega)) (e1.trans ?_)
        rw [show nI r + 1 = nI (r + 1) from nI_add r 1]
        exact i1
  -- the first row
  have l3 : ∀ w k M1, k ≤ 5 → 5 < w + k → XF scA M M1 → (∀ j, j < k → gA M1 19 j = nI (if j = a then 0 else 1000000)) → ∃ M', loopN (bX10_stepsOf_3 n0 q) (fun _ _ _ _ => none) w (nI a) (nI c) (nI k) M1 = some (if F a c < 100000000 then nI (F a c) else -1, M') ∧ XF scA M M' := fun w => by
    induction w with
    | zero => intro k M1 hk hw; omega
    | succ w ih =>
      intro k M1 hk hw hf hd
      show ∃ M', bX10_stepsOf_3 n0 q (loopN (bX10_stepsOf_3 n0 q) (fun _ _ _ _ => none) w) (nI a) (nI c) (nI k) M1 = _ ∧ _
      by_cases g : k = 5
      · subst g
        have hU : UBd F a T.nc 0 (fun j => if j = a then 0 else 1000000) := fun j hj hjf hr => by
          dsimp only
          by_cases e : j = a
          · rw [if_pos e]; exact Nat.zero_le _
          · obtain ⟨u, u1, u2, u3⟩ := hI.2.2.2.2 a j (by omega) (by omega) (fun z => e z.symm) hjf
            have f0 := hI.1 a (by omega)
            have := rk_lt (g := F a) (y := F a j) (u := a) (by omega) T.nc ha
            omega
        have hL : LBd F a (fun j => if j = a then 0 else 1000000) := fun j hj => by
          dsimp only
          by_cases e : j = a
          · rw [if_pos e, e, hI.1 a (by omega)]; omega
          · rw [if_neg e]; omega
        obtain ⟨M', i1, i2⟩ := l37 n0 0 M1 (fun j => if j = a then 0 else 1000000) (by omega) (by omega) hf (fun j hj => hd j hj) hL hU (if_pos rfl)
        refine ⟨M', ?_, i2⟩
        unfold bX10_stepsOf_3
        exact eq_t (by decide) i1
      · have ck : (nI k).toNatClampNeg = k := nI_clamp (by omega)
        have st : ∀ d, d = (if k = a then 0 else 1000000) → ∃ M', fX10_stepsOf_27 n0 q (loopN (bX10_stepsOf_3 n0 q) (fun _ _ _ _ => none) w) (nI a) (nI c) (nI k) (nI k) (nI d) M1 = some (if F a c < 100000000 then nI (F a c) else -1, M') ∧ XF scA M M' := fun d ed => by
          obtain ⟨M', i1, i2⟩ := ih (k + 1) (sA M1 19 k (nI d)) (by omega) (by omega) (hf.a (by unfold scA; omega)) (fun j hj => by
            rw [gA_sA, if_pos rfl]
            by_cases z : j = k
            · rw [if_pos z, ed, z]
            · rw [if_neg z]; exact hd j (by omega))
          refine ⟨M', ?_, i2⟩
          unfold fX10_stepsOf_27
          refine eq_f (nI_in (by omega) (by decide)) (eq_e (v' := sA M1 19 k (nI d)) (by rw [ck]) ?_)
          rw [show nI k + 1 = nI (k + 1) from nI_add k 1]
          exact i1
        unfold bX10_stepsOf_3
        by_cases z : k = a
        · obtain ⟨M', i1, i2⟩ := st 0 (by rw [if_pos z])
          exact ⟨M', eq_f (nI_ge (b := 5) (by omega) (by decide)) (eq_t (congrArg nI z) i1), i2⟩
        · obtain ⟨M', i1, i2⟩ := st 1000000 (by rw [if_neg z])
          exact ⟨M', eq_f (nI_ge (b := 5) (by omega) (by decide)) (eq_f (fun y => z ((nI_eq (by omega) (by omega)).mp y)) i1), i2⟩
  exact l3 n0 0 M (by omega) (by omega) XF.r (fun j hj => by omega)
