/-! BOTH SIDES AT FIRST -/
theorem own0 : ∀ i, i < 25 → gA MX0 4 i = nI (ownC i) := by decide +kernel
theorem town0 : TownR 31 0 0 0 0 0 0 MX0 MY0 :=
  ⟨⟨⟨rfl, rfl, by decide, fun i hi => absurd hi (Nat.not_lt_zero _)⟩, ⟨rfl, rfl, by decide, fun i hi => absurd hi (Nat.not_lt_zero _)⟩, ⟨rfl, rfl, by decide, fun i hi => absurd hi (Nat.not_lt_zero _)⟩⟩, fun i hi => absurd hi (Nat.not_lt_zero _), fun i hi => absurd hi (Nat.not_lt_zero _), fun i hi => absurd hi (Nat.not_lt_zero _), ⟨rfl, rfl, by decide, fun i hi => absurd hi (Nat.not_lt_zero _), fun _ _ _ _ => Or.inl ⟨rfl, fun i hi => absurd hi (Nat.not_lt_zero _)⟩⟩, ⟨0, by decide, rfl, rfl⟩, Or.inl ⟨rfl, rfl⟩, Or.inl ⟨rfl, rfl⟩, by decide⟩
theorem atFirst {n0 : Nat} (hn : 1700 ≤ n0) : ∃ M1, fX11_begin n0 MX0 = some M1 ∧ R n0 M1 MY0 := by
  have hX4 : ∃ X4, X4 = sI (sI (sR (sR MX0 896 31) 1280 31) 1281 0) 1285 0 := ⟨_, rfl⟩
  obtain ⟨X4, eX4⟩ := hX4
  have i4 : ∀ k, ¬ (k = 1281 ∨ k = 1285) → gI X4 k = gI MX0 k := fun k z => by
    rw [eX4, gI_ne (by omega), gI_ne (by omega)]
    rfl
  have a4 : gA X4 = gA MX0 := by rw [eX4]; rfl
  have r3 : gR X4 896 = 31 := by rw [eX4]; rfl
  have r4 : gR X4 1280 = 31 := by rw [eX4]; rfl
  have r1 : gR X4 1 = 31 := by rw [eX4]; rfl
  have r2 : gR X4 2 = 47 := by rw [eX4]; rfl
  have tw4 : xTw 31 MX0 X4 := ⟨fun k z _ => i4 k (by omega), fun a _ _ => by rw [a4]⟩
  have TR4 : TownR 31 0 0 0 0 0 0 X4 MY0 := town0.tw tw4 yTw.r
  obtain ⟨T, t1, t2, t3, t4, t5⟩ := townT (n0 := n0) hn TR4 (Or.inl rfl) (by decide) rfl
  have S4 : SX 31 T.nc T.nd 0 (fun _ => (-1, 0)) (0, []) X4 := by
    refine ⟨r3, r4, by rw [eX4, gI_ne (by decide), gI_at]; rfl, fun c hc => by omega, fun d hd => by omega, by rw [eX4, gI_at]; rfl, fun i p hp => by simp at hp⟩
  have Ps : PsO T.nt T.nc (fun _ => (-1, 0)) := fun c hc => by omega
  have sO : sOk T.nd (0, []) := ⟨Nat.pow_pos (by decide), Nat.zero_le _⟩
  obtain ⟨X6, d1, d2, d3⟩ := xfin hn t4 S4 Ps (by omega) sO
  have eF : fnS (due T (fun _ => (-1, 0)) 0) 0 (0, []) T.nd = (0, []) := by rw [t3]; rfl
  rw [eF] at d2
  have hX7 : ∃ X7, X7 = sI (sI X6 2050 0) 2688 0 := ⟨_, rfl⟩
  obtain ⟨X7, eX7⟩ := hX7
  have rX7 : gR X7 = gR X4 := by rw [eX7]; exact d3.1
  have iX7 : ∀ k, ¬ (k = 2050 ∨ k = 2688) → gI X7 k = gI X6 k := fun k z => by rw [eX7, gI_ne (by omega), gI_ne (by omega)]
  have iX6 : ∀ k, ¬ ((897 ≤ k ∧ k ≤ 900) ∨ k = 903 ∨ stI k) → gI X6 k = gI X4 k := d3.2.2.2.2
  have aX7 : gA X7 = gA X6 := by rw [eX7]; rfl
  have aX6 : ∀ a, ¬ (a = 8 ∨ a = 9 ∨ stA a) → gA X6 a = gA MX0 a := fun a z => by rw [d3.2.2.2.1 a z, a4]
  have tw7 : xTw 31 X4 X7 := ⟨fun k p1 p2 => (iX7 k (by omega)).trans (iX6 k (by unfold stI; omega)), fun a p1 p2 => by rw [aX7, aX6 a (by unfold stA; omega), a4]⟩
  have xI : ∀ k, k = 14 ∨ k = 15 ∨ k = 16 ∨ k = 17 ∨ k = 641 ∨ k = 2049 → gI X7 k = gI MX0 k := fun k z => (iX7 k (by omega)).trans ((iX6 k (by unfold stI; omega)).trans (i4 k (by omega)))
  have xA : ∀ a, a = 4 ∨ a = 6 ∨ a = 29 ∨ a = 30 → gA X7 a = gA MX0 a := fun a z => by rw [aX7, aX6 a (by unfold stA; omega)]
  refine ⟨X7, ?_, 31, 0, T, 0, 0, 0, (fun _ => (-1, 0)), (0, []), ⟨Or.inl rfl, by rw [rX7]; exact r1, by rw [rX7]; exact r2, t4.tw tw7, t5, ?_, rfl, rfl, rfl⟩, ⟨by omega, Ps, sO⟩, d2.cgs (by rw [eX7]; rfl) (iX7 1281 (by decide)) (iX7 1285 (by decide)) (fun a _ _ => by rw [aX7]), ?_, ?_, ?_, ?_, ?_, ?_, ?_, ?_, ?_⟩
  · unfold fX11_begin
    refine eq_n (eq_b (z := X4) ?_ (eq_b d1 (eq_n ?_)))
    · unfold fX6_begin
      refine eq_n (eq_n (eq_e (v' := X4) (by rw [eX4]; rfl) ?_))
      obtain ⟨w, rfl⟩ : ∃ w, n0 = w + 1 := ⟨n0 - 1, by omega⟩
      show bX6_begin_17 (w + 1) 31 (xbC (w + 1) 31 w) 0 X4 = _
      unfold bX6_begin_17
      refine eq_t (by rw [r4, i4 _ (by omega)]; decide) ?_
      show bX6_begin_50 (w + 1) 31 (xbD (w + 1) 31 w) 0 X4 = _
      unfold bX6_begin_50
      exact eq_t (by rw [r4, i4 _ (by omega)]; decide) rfl
    · rw [eX7]
  · have := TR4.tw tw7 yTw.r
    rw [t1, t2, t3]
    exact this
  · exact ⟨⟨rfl, fun c hc => by omega⟩, rfl, rfl, fun i p hp => by simp at hp⟩
  · refine ⟨0, 0, 0, fun _ => (0, (fun _ => (-1, 0)), 0, 0), by decide, by decide, by decide, by rw [xI 2049 (by omega)]; rfl, by rw [eX7, gI_ne (by decide), gI_at]; rfl, rfl, rfl, fun i hi => by omega, fun i j _ hj => by omega⟩
  · exact ⟨0, by omega, by rw [eX7, gI_at]; rfl, rfl, fun k hk => by omega⟩
  · exact ⟨1, by decide, by rw [xI 17 (by omega)]; rfl, rfl⟩
  · exact ⟨0, by decide, by rw [xI 14 (by omega)]; rfl, rfl, fun k hk => by omega⟩
  · intro k hk
    rw [xA 30 (by omega)]
    rfl
  · exact ⟨by rw [xI 15 (by omega)]; rfl, by rw [xI 16 (by omega)]; rfl⟩
  · exact ⟨0, by decide, by rw [xI 641 (by omega)]; rfl, rfl, by rw [xA 6 (by omega)]; rfl, fun i hi => by omega⟩
  · intro i hi
    rw [xA 4 (by omega)]
    exact own0 i hi
