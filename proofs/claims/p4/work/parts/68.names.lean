/-! STEPS OF BOTH READERS: numbers, names -/
theorem KR.sg2 {kd pl va sg lx vy : Int32} {wd : Int64} {L s : Nat} (h : KR kd pl va sg lx vy wd L s) (hk : ¬ kd = 258) : (sg = 2 ↔ kd = 256) ∧ (kd = 256 → ∃ v, v ≤ 9999 ∧ va = nI v ∧ vy = nI v) := by
  rcases h with h | h | h | h | h
  · rw [h.1, h.2.2.1]; exact ⟨by decide, fun e => absurd e (by decide)⟩
  · exact absurd h.1 hk
  · rw [h.1, h.2.2.1]; exact ⟨by decide, fun _ => h.2.2.2.2.2⟩
  · have : ¬ kd = 256 := fun e => by
      have := h.1.2
      rw [e] at this
      exact absurd this (by decide)
    rw [h.2.2.1]
    exact ⟨⟨fun e => absurd e (by decide), fun e => absurd e this⟩, fun e => absurd e this⟩
  · obtain ⟨_, h3, _, _, v, w, k, _, hd, e1, _⟩ := h
    have : ¬ kd = 256 := fun e => by
      rw [e1] at e
      have := (nI_eq (a := k) (b := 256) (by rcases hd.1 with q | q <;> omega) (by decide)).mp e
      rcases hd.1 with q | q <;> omega
    rw [h3]
    exact ⟨⟨fun e => absurd e (by decide), fun e => absurd e this⟩, fun e => absurd e this⟩
def OutN (L s : Nat) (lo hi : Int32) (MX MY : Mem) (FX FY : Mem → Mem → Prop) (rx ry : Option (Int32 × Mem)) : Prop :=
  (∃ v MX' MY' s', v ≤ 9999 ∧ lo ≤ nI v ∧ nI v ≤ hi ∧ rx = some (nI v, MX') ∧ ry = some (nI v, MY') ∧ s < s' ∧ PR L s' MX' MY' ∧ FX MX MX' ∧ FY MY MY') ∨ (∃ MX' MY' u, rx = some (-1, MX') ∧ ry = some (u, MY') ∧ Flt MX' MY' ∧ FX MX MX' ∧ FY MY MY')
theorem ynumF {n0 : Nat} {lo hi : Int32} {M : Mem} (h : ¬ gI M 8 ≤ 0) : fX12_number n0 lo hi M = some (0, M) := by
  unfold fX12_number
  exact eq_b (ylexF h) (eq_f h rfl)
theorem y58F {n0 : Nat} {M : Mem} (h : ¬ gI M 8 = 0) : fX12_number_58 n0 M = some (gI M 6, M) := by
  unfold fX12_number_58
  exact eq_n (eq_f h rfl)
theorem y30F {n0 : Nat} {lo hi : Int32} {M : Mem} (h : ¬ gI M 8 = 0) : fX12_number_30 n0 lo hi M = some (gI M 6, M) := by
  unfold fX12_number_30
  exact eq_f h (y58F h)
theorem numP {n0 L s : Nat} {lo hi : Int32} {MX MY : Mem} (hn : 1601 ≤ n0) (h : PR L s MX MY) : OutN L s lo hi MX MY (FI 386 392) FrY (fX4_number n0 lo hi MX) (fX12_number n0 lo hi MY) := by
  have e8 : gI MY 8 ≤ 0 := by rw [h.f8]; exact i00
  by_cases hb : gI MX 386 = 258
  · refine Or.inr ⟨sI (sI MX 391 1) 392 (gI MX 388), sI (sI MY 8 1) 9 (gI MX 388), 0, ?_, ?_, Flt.mk (k := 1) (by decide) (by decide), FIf, FYf⟩
    · unfold fX4_number
      exact eq_n (eq_f (by rw [hb]; decide) (eq_b xfailH rfl))
    · unfold fX12_number
      exact eq_b (ylexB h hb) (eq_f (n8f (k := 1) (by decide) (by decide)) rfl)
  have hK := h.2.1.2.2.2.2.sg2 hb
  by_cases hk : gI MX 386 = 256
  · obtain ⟨v, hv, ex, ey⟩ := hK.2 hk
    have hs : s < L := h.2.1.2.2.2.2.lt (by rw [hk]; decide)
    by_cases hr : lo ≤ nI v ∧ nI v ≤ hi
    · obtain ⟨MX', MY', s', ax, ay, hs, hP, fx, fy⟩ := h.adv hn hs
      refine Or.inl ⟨v, MX', MY', s', hv, hr.1, hr.2, ?_, ?_, hs, hP, fx.wk (by decide) (by decide), fy.Y⟩
      · unfold fX4_number
        rw [ex]
        exact eq_n (eq_t hk (eq_f (Int32.not_lt.mpr hr.1) (eq_t hr.2 (eq_b ax rfl))))
      · unfold fX12_number fX12_number_30 fX12_number_58 fX12_is
        rw [← ey]
        rw [← ey] at hr
        exact eq_b (ylexG h hb) (eq_t e8 (eq_t (hK.1.mpr hk) (eq_t h.f8 (eq_b (z := (1, MY)) (eq_f (Int32.not_lt.mpr hr.1) (eq_f (Int32.not_lt.mpr hr.2) rfl)) (eq_f i10 (eq_n (eq_t h.f8 (eq_b ay rfl))))))))
    · refine Or.inr ⟨sI (sI MX 391 4) 392 (nI s), sI (sI MY 8 4) 9 (nI s), gI MY 6, ?_, ?_, Flt.mk (k := 4) (by decide) (by decide), FIf, FYf⟩
      · unfold fX4_number fX4_number_41
        rw [ex, h.st]
        by_cases h1 : nI v < lo
        · exact eq_n (eq_t hk (eq_t h1 (eq_b xfail rfl)))
        · exact eq_n (eq_t hk (eq_f h1 (eq_f (fun g => hr ⟨Int32.not_lt.mp h1, g⟩) (eq_b xfail rfl))))
      · have h5 : fX12_is n0 (gI MY 6) lo hi MY = some (0, MY) := by
          unfold fX12_is
          rw [ey]
          by_cases h1 : nI v < lo
          · exact eq_t h1 rfl
          · exact eq_f h1 (eq_t (Int32.not_le.mp (fun g => hr ⟨Int32.not_lt.mp h1, g⟩)) rfl)
        unfold fX12_number fX12_number_30
        refine eq_b (ylexG h hb) (eq_t e8 (eq_t (hK.1.mpr hk) (eq_t h.f8 (eq_b h5 (eq_t rfl (eq_b (yblame0 h.f8) ?_))))))
        show fX12_number_58 n0 (sI (sI MY 8 4) 9 (gI MY 4)) = _
        rw [h.at_, y58F (by rw [g8f]; decide)]
        rfl
  · refine Or.inr ⟨sI (sI MX 391 1) 392 (gI MX 388), sI (sI MY 8 1) 9 (gI MX 388), gI MY 6, ?_, ?_, Flt.mk (k := 1) (by decide) (by decide), FIf, FYf⟩
    · unfold fX4_number
      exact eq_n (eq_f hk (eq_b xfailH rfl))
    · unfold fX12_number
      refine eq_b (ylexG h hb) (eq_t e8 (eq_f (fun g => hk (hK.1.mp g)) (eq_b (yblame0 h.f8) ?_)))
      rw [h.at_, h.pl hb, y30F (by rw [g8f]; decide)]
      rfl
theorem yOwn {n0 : Nat} {y : Int64} {M : Mem} : ∃ u, fX12_isOwn n0 y M = some (u, M) ∧ ((u = 0 ∧ ∀ i, i < 25 → ¬ y = lN (ownL i)) ∨ (u = 1 ∧ ∃ i, i < 25 ∧ y = lN (ownL i))) := by
  unfold fX12_isOwn
  by_cases h0 : y = lN (ownL 0)
  · exact ⟨1, eq_t (cmp0.mpr h0) rfl, Or.inr ⟨rfl, 0, by decide, h0⟩⟩
  by_cases h1 : y = lN (ownL 1)
  · exact ⟨1, eq_f (fun q => h0 (cmp0.mp q)) (eq_t (cmp0.mpr h1) rfl), Or.inr ⟨rfl, 1, by decide, h1⟩⟩
  by_cases h2 : y = lN (ownL 2)
  · exact ⟨1, eq_f (fun q => h0 (cmp0.mp q)) (eq_f (fun q => h1 (cmp0.mp q)) (eq_t (cmp0.mpr h2) rfl)), Or.inr ⟨rfl, 2, by decide, h2⟩⟩
  by_cases h3 : y = lN (ownL 3)
  · exact ⟨1, eq_f (fun q => h0 (cmp0.mp q)) (eq_f (fun q => h1 (cmp0.mp q)) (eq_f (fun q => h2 (cmp0.mp q)) (eq_t (cmp0.mpr h3) rfl))), Or.inr ⟨rfl, 3, by decide, h3⟩⟩
  by_cases h4 : y = lN (ownL 4)
  · exact ⟨1, eq_f (fun q => h0 (cmp0.mp q)) (eq_f (fun q => h1 (cmp0.mp q)) (eq_f (fun q => h2 (cmp0.mp q)) (eq_f (fun q => h3 (cmp0.mp q)) (eq_t (cmp0.mpr h4) rfl)))), Or.inr ⟨rfl, 4, by decide, h4⟩⟩
  by_cases h5 : y = lN (ownL 5)
  · exact ⟨1, eq_f (fun q => h0 (cmp0.mp q)) (eq_f (fun q => h1 (cmp0.mp q)) (eq_f (fun q => h2 (cmp0.mp q)) (eq_f (fun q => h3 (cmp0.mp q)) (eq_f (fun q => h4 (cmp0.mp q)) (eq_t (cmp0.mpr h5) rfl))))), Or.inr ⟨rfl, 5, by decide, h5⟩⟩
  by_cases h6 : y = lN (ownL 6)
  · exact ⟨1, eq_f (fun q => h0 (cmp0.mp q)) (eq_f (fun q => h1 (cmp0.mp q)) (eq_f (fun q => h2 (cmp0.mp q)) (eq_f (fun q => h3 (cmp0.mp q)) (eq_f (fun q => h4 (cmp0.mp q)) (eq_f (fun q => h5 (cmp0.mp q)) (eq_t (cmp0.mpr h6) rfl)))))), Or.inr ⟨rfl, 6, by decide, h6⟩⟩
  by_cases h7 : y = lN (ownL 7)
  · exact ⟨1, eq_f (fun q => h0 (cmp0.mp q)) (eq_f (fun q => h1 (cmp0.mp q)) (eq_f (fun q => h2 (cmp0.mp q)) (eq_f (fun q => h3 (cmp0.mp q)) (eq_f (fun q => h4 (cmp0.mp q)) (eq_f (fun q => h5 (cmp0.mp q)) (eq_f (fun q => h6 (cmp0.mp q)) (eq_t (cmp0.mpr h7) rfl))))))), Or.inr ⟨rfl, 7, by decide, h7⟩⟩
  by_cases h8 : y = lN (ownL 8)
  · exact ⟨1, eq_f (fun q => h0 (cmp0.mp q)) (eq_f (fun q => h1 (cmp0.mp q)) (eq_f (fun q => h2 (cmp0.mp q)) (eq_f (fun q => h3 (cmp0.mp q)) (eq_f (fun q => h4 (cmp0.mp q)) (eq_f (fun q => h5 (cmp0.mp q)) (eq_f (fun q => h6 (cmp0.mp q)) (eq_f (fun q => h7 (cmp0.mp q)) (eq_t (cmp0.mpr h8) rfl)))))))), Or.inr ⟨rfl, 8, by decide, h8⟩⟩
  by_cases h9 : y = lN (ownL 9)
  · exact ⟨1, eq_f (fun q => h0 (cmp0.mp q)) (eq_f (fun q => h1 (cmp0.mp q)) (eq_f (fun q => h2 (cmp0.mp q)) (eq_f (fun q => h3 (cmp0.mp q)) (eq_f (fun q => h4 (cmp0.mp q)) (eq_f (fun q => h5 (cmp0.mp q)) (eq_f (fun q => h6 (cmp0.mp q)) (eq_f (fun q => h7 (cmp0.mp q)) (eq_f (fun q => h8 (cmp0.mp q)) (eq_t (cmp0.mpr h9) rfl))))))))), Or.inr ⟨rfl, 9, by decide, h9⟩⟩
  by_cases h10 : y = lN (ownL 10)
  · exact ⟨1, eq_f (fun q => h0 (cmp0.mp q)) (eq_f (fun q => h1 (cmp0.mp q)) (eq_f (fun q => h2 (cmp0.mp q)) (eq_f (fun q => h3 (cmp0.mp q)) (eq_f (fun q => h4 (cmp0.mp q)) (eq_f (fun q => h5 (cmp0.mp q)) (eq_f (fun q => h6 (cmp0.mp q)) (eq_f (fun q => h7 (cmp0.mp q)) (eq_f (fun q => h8 (cmp0.mp q)) (eq_f (fun q => h9 (cmp0.mp q)) (eq_t (cmp0.mpr h10) rfl)))))))))), Or.inr ⟨rfl, 10, by decide, h10⟩⟩
  by_cases h11 : y = lN (ownL 11)
  · exact ⟨1, eq_f (fun q => h0 (cmp0.mp q)) (eq_f (fun q => h1 (cmp0.mp q)) (eq_f (fun q => h2 (cmp0.mp q)) (eq_f (fun q => h3 (cmp0.mp q)) (eq_f (fun q => h4 (cmp0.mp q)) (eq_f (fun q => h5 (cmp0.mp q)) (eq_f (fun q => h6 (cmp0.mp q)) (eq_f (fun q => h7 (cmp0.mp q)) (eq_f (fun q => h8 (cmp0.mp q)) (eq_f (fun q => h9 (cmp0.mp q)) (eq_f (fun q => h10 (cmp0.mp q)) (eq_t (cmp0.mpr h11) rfl))))))))))), Or.inr ⟨rfl, 11, by decide, h11⟩⟩
  by_cases h12 : y = lN (ownL 12)
  · exact ⟨1, eq_f (fun q => h0 (cmp0.mp q)) (eq_f (fun q => h1 (cmp0.mp q)) (eq_f (fun q => h2 (cmp0.mp q)) (eq_f (fun q => h3 (cmp0.mp q)) (eq_f (fun q => h4 (cmp0.mp q)) (eq_f (fun q => h5 (cmp0.mp q)) (eq_f (fun q => h6 (cmp0.mp q)) (eq_f (fun q => h7 (cmp0.mp q)) (eq_f (fun q => h8 (cmp0.mp q)) (eq_f (fun q => h9 (cmp0.mp q)) (eq_f (fun q => h10 (cmp0.mp q)) (eq_f (fun q => h11 (cmp0.mp q)) (eq_t (cmp0.mpr h12) rfl)))))))))))), Or.inr ⟨rfl, 12, by decide, h12⟩⟩
  by_cases h13 : y = lN (ownL 13)
  · exact ⟨1, eq_f (fun q => h0 (cmp0.mp q)) (eq_f (fun q => h1 (cmp0.mp q)) (eq_f (fun q => h2 (cmp0.mp q)) (eq_f (fun q => h3 (cmp0.mp q)) (eq_f (fun q => h4 (cmp0.mp q)) (eq_f (fun q => h5 (cmp0.mp q)) (eq_f (fun q => h6 (cmp0.mp q)) (eq_f (fun q => h7 (cmp0.mp q)) (eq_f (fun q => h8 (cmp0.mp q)) (eq_f (fun q => h9 (cmp0.mp q)) (eq_f (fun q => h10 (cmp0.mp q)) (eq_f (fun q => h11 (cmp0.mp q)) (eq_f (fun q => h12 (cmp0.mp q)) (eq_t (cmp0.mpr h13) rfl))))))))))))), Or.inr ⟨rfl, 13, by decide, h13⟩⟩
  by_cases h14 : y = lN (ownL 14)
  · exact ⟨1, eq_f (fun q => h0 (cmp0.mp q)) (eq_f (fun q => h1 (cmp0.mp q)) (eq_f (fun q => h2 (cmp0.mp q)) (eq_f (fun q => h3 (cmp0.mp q)) (eq_f (fun q => h4 (cmp0.mp q)) (eq_f (fun q => h5 (cmp0.mp q)) (eq_f (fun q => h6 (cmp0.mp q)) (eq_f (fun q => h7 (cmp0.mp q)) (eq_f (fun q => h8 (cmp0.mp q)) (eq_f (fun q => h9 (cmp0.mp q)) (eq_f (fun q => h10 (cmp0.mp q)) (eq_f (fun q => h11 (cmp0.mp q)) (eq_f (fun q => h12 (cmp0.mp q)) (eq_f (fun q => h13 (cmp0.mp q)) (eq_t (cmp0.mpr h14) rfl)))))))))))))), Or.inr ⟨rfl, 14, by decide, h14⟩⟩
  by_cases h15 : y = lN (ownL 15)
  · exact ⟨1, eq_f (fun q => h0 (cmp0.mp q)) (eq_f (fun q => h1 (cmp0.mp q)) (eq_f (fun q => h2 (cmp0.mp q)) (eq_f (fun q => h3 (cmp0.mp q)) (eq_f (fun q => h4 (cmp0.mp q)) (eq_f (fun q => h5 (cmp0.mp q)) (eq_f (fun q => h6 (cmp0.mp q)) (eq_f (fun q => h7 (cmp0.mp q)) (eq_f (fun q => h8 (cmp0.mp q)) (eq_f (fun q => h9 (cmp0.mp q)) (eq_f (fun q => h10 (cmp0.mp q)) (eq_f (fun q => h11 (cmp0.mp q)) (eq_f (fun q => h12 (cmp0.mp q)) (eq_f (fun q => h13 (cmp0.mp q)) (eq_f (fun q => h14 (cmp0.mp q)) (eq_t (cmp0.mpr h15) rfl))))))))))))))), Or.inr ⟨rfl, 15, by decide, h15⟩⟩
  by_cases h16 : y = lN (ownL 16)
  · exact ⟨1, eq_f (fun q => h0 (cmp0.mp q)) (eq_f (fun q => h1 (cmp0.mp q)) (eq_f (fun q => h2 (cmp0.mp q)) (eq_f (fun q => h3 (cmp0.mp q)) (eq_f (fun q => h4 (cmp0.mp q)) (eq_f (fun q => h5 (cmp0.mp q)) (eq_f (fun q => h6 (cmp0.mp q)) (eq_f (fun q => h7 (cmp0.mp q)) (eq_f (fun q => h8 (cmp0.mp q)) (eq_f (fun q => h9 (cmp0.mp q)) (eq_f (fun q => h10 (cmp0.mp q)) (eq_f (fun q => h11 (cmp0.mp q)) (eq_f (fun q => h12 (cmp0.mp q)) (eq_f (fun q => h13 (cmp0.mp q)) (eq_f (fun q => h14 (cmp0.mp q)) (eq_f (fun q => h15 (cmp0.mp q)) (eq_t (cmp0.mpr h16) rfl)))))))))))))))), Or.inr ⟨rfl, 16, by decide, h16⟩⟩
  by_cases h17 : y = lN (ownL 17)
  · exact ⟨1, eq_f (fun q => h0 (cmp0.mp q)) (eq_f (fun q => h1 (cmp0.mp q)) (eq_f (fun q => h2 (cmp0.mp q)) (eq_f (fun q => h3 (cmp0.mp q)) (eq_f (fun q => h4 (cmp0.mp q)) (eq_f (fun q => h5 (cmp0.mp q)) (eq_f (fun q => h6 (cmp0.mp q)) (eq_f (fun q => h7 (cmp0.mp q)) (eq_f (fun q => h8 (cmp0.mp q)) (eq_f (fun q => h9 (cmp0.mp q)) (eq_f (fun q => h10 (cmp0.mp q)) (eq_f (fun q => h11 (cmp0.mp q)) (eq_f (fun q => h12 (cmp0.mp q)) (eq_f (fun q => h13 (cmp0.mp q)) (eq_f (fun q => h14 (cmp0.mp q)) (eq_f (fun q => h15 (cmp0.mp q)) (eq_f (fun q => h16 (cmp0.mp q)) (eq_t (cmp0.mpr h17) rfl))))))))))))))))), Or.inr ⟨rfl, 17, by decide, h17⟩⟩
  by_cases h18 : y = lN (ownL 18)
  · exact ⟨1, eq_f (fun q => h0 (cmp0.mp q)) (eq_f (fun q => h1 (cmp0.mp q)) (eq_f (fun q => h2 (cmp0.mp q)) (eq_f (fun q => h3 (cmp0.mp q)) (eq_f (fun q => h4 (cmp0.mp q)) (eq_f (fun q => h5 (cmp0.mp q)) (eq_f (fun q => h6 (cmp0.mp q)) (eq_f (fun q => h7 (cmp0.mp q)) (eq_f (fun q => h8 (cmp0.mp q)) (eq_f (fun q => h9 (cmp0.mp q)) (eq_f (fun q => h10 (cmp0.mp q)) (eq_f (fun q => h11 (cmp0.mp q)) (eq_f (fun q => h12 (cmp0.mp q)) (eq_f (fun q => h13 (cmp0.mp q)) (eq_f (fun q => h14 (cmp0.mp q)) (eq_f (fun q => h15 (cmp0.mp q)) (eq_f (fun q => h16 (cmp0.mp q)) (eq_f (fun q => h17 (cmp0.mp q)) (eq_t (cmp0.mpr h18) rfl)))))))))))))))))), Or.inr ⟨rfl, 18, by decide, h18⟩⟩
  by_cases h19 : y = lN (ownL 19)
  · exact ⟨1, eq_f (fun q => h0 (cmp0.mp q)) (eq_f (fun q => h1 (cmp0.mp q)) (eq_f (fun q => h2 (cmp0.mp q)) (eq_f (fun q => h3 (cmp0.mp q)) (eq_f (fun q => h4 (cmp0.mp q)) (eq_f (fun q => h5 (cmp0.mp q)) (eq_f (fun q => h6 (cmp0.mp q)) (eq_f (fun q => h7 (cmp0.mp q)) (eq_f (fun q => h8 (cmp0.mp q)) (eq_f (fun q => h9 (cmp0.mp q)) (eq_f (fun q => h10 (cmp0.mp q)) (eq_f (fun q => h11 (cmp0.mp q)) (eq_f (fun q => h12 (cmp0.mp q)) (eq_f (fun q => h13 (cmp0.mp q)) (eq_f (fun q => h14 (cmp0.mp q)) (eq_f (fun q => h15 (cmp0.mp q)) (eq_f (fun q => h16 (cmp0.mp q)) (eq_f (fun q => h17 (cmp0.mp q)) (eq_f (fun q => h18 (cmp0.mp q)) (eq_t (cmp0.mpr h19) rfl))))))))))))))))))), Or.inr ⟨rfl, 19, by decide, h19⟩⟩
  by_cases h20 : y = lN (ownL 20)
  · exact ⟨1, eq_f (fun q => h0 (cmp0.mp q)) (eq_f (fun q => h1 (cmp0.mp q)) (eq_f (fun q => h2 (cmp0.mp q)) (eq_f (fun q => h3 (cmp0.mp q)) (eq_f (fun q => h4 (cmp0.mp q)) (eq_f (fun q => h5 (cmp0.mp q)) (eq_f (fun q => h6 (cmp0.mp q)) (eq_f (fun q => h7 (cmp0.mp q)) (eq_f (fun q => h8 (cmp0.mp q)) (eq_f (fun q => h9 (cmp0.mp q)) (eq_f (fun q => h10 (cmp0.mp q)) (eq_f (fun q => h11 (cmp0.mp q)) (eq_f (fun q => h12 (cmp0.mp q)) (eq_f (fun q => h13 (cmp0.mp q)) (eq_f (fun q => h14 (cmp0.mp q)) (eq_f (fun q => h15 (cmp0.mp q)) (eq_f (fun q => h16 (cmp0.mp q)) (eq_f (fun q => h17 (cmp0.mp q)) (eq_f (fun q => h18 (cmp0.mp q)) (eq_f (fun q => h19 (cmp0.mp q)) (eq_t (cmp0.mpr h20) rfl)))))))))))))))))))), Or.inr ⟨rfl, 20, by decide, h20⟩⟩
  by_cases h21 : y = lN (ownL 21)
  · exact ⟨1, eq_f (fun q => h0 (cmp0.mp q)) (eq_f (fun q => h1 (cmp0.mp q)) (eq_f (fun q => h2 (cmp0.mp q)) (eq_f (fun q => h3 (cmp0.mp q)) (eq_f (fun q => h4 (cmp0.mp q)) (eq_f (fun q => h5 (cmp0.mp q)) (eq_f (fun q => h6 (cmp0.mp q)) (eq_f (fun q => h7 (cmp0.mp q)) (eq_f (fun q => h8 (cmp0.mp q)) (eq_f (fun q => h9 (cmp0.mp q)) (eq_f (fun q => h10 (cmp0.mp q)) (eq_f (fun q => h11 (cmp0.mp q)) (eq_f (fun q => h12 (cmp0.mp q)) (eq_f (fun q => h13 (cmp0.mp q)) (eq_f (fun q => h14 (cmp0.mp q)) (eq_f (fun q => h15 (cmp0.mp q)) (eq_f (fun q => h16 (cmp0.mp q)) (eq_f (fun q => h17 (cmp0.mp q)) (eq_f (fun q => h18 (cmp0.mp q)) (eq_f (fun q => h19 (cmp0.mp q)) (eq_f (fun q => h20 (cmp0.mp q)) (eq_t (cmp0.mpr h21) rfl))))))))))))))))))))), Or.inr ⟨rfl, 21, by decide, h21⟩⟩
  by_cases h22 : y = lN (ownL 22)
  · exact ⟨1, eq_f (fun q => h0 (cmp0.mp q)) (eq_f (fun q => h1 (cmp0.mp q)) (eq_f (fun q => h2 (cmp0.mp q)) (eq_f (fun q => h3 (cmp0.mp q)) (eq_f (fun q => h4 (cmp0.mp q)) (eq_f (fun q => h5 (cmp0.mp q)) (eq_f (fun q => h6 (cmp0.mp q)) (eq_f (fun q => h7 (cmp0.mp q)) (eq_f (fun q => h8 (cmp0.mp q)) (eq_f (fun q => h9 (cmp0.mp q)) (eq_f (fun q => h10 (cmp0.mp q)) (eq_f (fun q => h11 (cmp0.mp q)) (eq_f (fun q => h12 (cmp0.mp q)) (eq_f (fun q => h13 (cmp0.mp q)) (eq_f (fun q => h14 (cmp0.mp q)) (eq_f (fun q => h15 (cmp0.mp q)) (eq_f (fun q => h16 (cmp0.mp q)) (eq_f (fun q => h17 (cmp0.mp q)) (eq_f (fun q => h18 (cmp0.mp q)) (eq_f (fun q => h19 (cmp0.mp q)) (eq_f (fun q => h20 (cmp0.mp q)) (eq_f (fun q => h21 (cmp0.mp q)) (eq_t (cmp0.mpr h22) rfl)))))))))))))))))))))), Or.inr ⟨rfl, 22, by decide, h22⟩⟩
  by_cases h23 : y = lN (ownL 23)
  · exact ⟨1, eq_f (fun q => h0 (cmp0.mp q)) (eq_f (fun q => h1 (cmp0.mp q)) (eq_f (fun q => h2 (cmp0.mp q)) (eq_f (fun q => h3 (cmp0.mp q)) (eq_f (fun q => h4 (cmp0.mp q)) (eq_f (fun q => h5 (cmp0.mp q)) (eq_f (fun q => h6 (cmp0.mp q)) (eq_f (fun q => h7 (cmp0.mp q)) (eq_f (fun q => h8 (cmp0.mp q)) (eq_f (fun q => h9 (cmp0.mp q)) (eq_f (fun q => h10 (cmp0.mp q)) (eq_f (fun q => h11 (cmp0.mp q)) (eq_f (fun q => h12 (cmp0.mp q)) (eq_f (fun q => h13 (cmp0.mp q)) (eq_f (fun q => h14 (cmp0.mp q)) (eq_f (fun q => h15 (cmp0.mp q)) (eq_f (fun q => h16 (cmp0.mp q)) (eq_f (fun q => h17 (cmp0.mp q)) (eq_f (fun q => h18 (cmp0.mp q)) (eq_f (fun q => h19 (cmp0.mp q)) (eq_f (fun q => h20 (cmp0.mp q)) (eq_f (fun q => h21 (cmp0.mp q)) (eq_f (fun q => h22 (cmp0.mp q)) (eq_t (cmp0.mpr h23) rfl))))))))))))))))))))))), Or.inr ⟨rfl, 23, by decide, h23⟩⟩
  by_cases h24 : y = lN (ownL 24)
  · exact ⟨1, eq_f (fun q => h0 (cmp0.mp q)) (eq_f (fun q => h1 (cmp0.mp q)) (eq_f (fun q => h2 (cmp0.mp q)) (eq_f (fun q => h3 (cmp0.mp q)) (eq_f (fun q => h4 (cmp0.mp q)) (eq_f (fun q => h5 (cmp0.mp q)) (eq_f (fun q => h6 (cmp0.mp q)) (eq_f (fun q => h7 (cmp0.mp q)) (eq_f (fun q => h8 (cmp0.mp q)) (eq_f (fun q => h9 (cmp0.mp q)) (eq_f (fun q => h10 (cmp0.mp q)) (eq_f (fun q => h11 (cmp0.mp q)) (eq_f (fun q => h12 (cmp0.mp q)) (eq_f (fun q => h13 (cmp0.mp q)) (eq_f (fun q => h14 (cmp0.mp q)) (eq_f (fun q => h15 (cmp0.mp q)) (eq_f (fun q => h16 (cmp0.mp q)) (eq_f (fun q => h17 (cmp0.mp q)) (eq_f (fun q => h18 (cmp0.mp q)) (eq_f (fun q => h19 (cmp0.mp q)) (eq_f (fun q => h20 (cmp0.mp q)) (eq_f (fun q => h21 (cmp0.mp q)) (eq_f (fun q => h22 (cmp0.mp q)) (eq_f (fun q => h23 (cmp0.mp q)) (eq_t (cmp0.mpr h24) rfl)))))))))))))))))))))))), Or.inr ⟨rfl, 24, by decide, h24⟩⟩
  refine ⟨0, eq_f (fun q => h0 (cmp0.mp q)) (eq_f (fun q => h1 (cmp0.mp q)) (eq_f (fun q => h2 (cmp0.mp q)) (eq_f (fun q => h3 (cmp0.mp q)) (eq_f (fun q => h4 (cmp0.mp q)) (eq_f (fun q => h5 (cmp0.mp q)) (eq_f (fun q => h6 (cmp0.mp q)) (eq_f (fun q => h7 (cmp0.mp q)) (eq_f (fun q => h8 (cmp0.mp q)) (eq_f (fun q => h9 (cmp0.mp q)) (eq_f (fun q => h10 (cmp0.mp q)) (eq_f (fun q => h11 (cmp0.mp q)) (eq_f (fun q => h12 (cmp0.mp q)) (eq_f (fun q => h13 (cmp0.mp q)) (eq_f (fun q => h14 (cmp0.mp q)) (eq_f (fun q => h15 (cmp0.mp q)) (eq_f (fun q => h16 (cmp0.mp q)) (eq_f (fun q => h17 (cmp0.mp q)) (eq_f (fun q => h18 (cmp0.mp q)) (eq_f (fun q => h19 (cmp0.mp q)) (eq_f (fun q => h20 (cmp0.mp q)) (eq_f (fun q => h21 (cmp0.mp q)) (eq_f (fun q => h22 (cmp0.mp q)) (eq_f (fun q => h23 (cmp0.mp q)) (eq_f (fun q => h24 (cmp0.mp q)) (rfl))))))))))))))))))))))))), Or.inl ⟨rfl, fun i hi => ?_⟩⟩
  have hh : i = 0 ∨ i = 1 ∨ i = 2 ∨ i = 3 ∨ i = 4 ∨ i = 5 ∨ i = 6 ∨ i = 7 ∨ i = 8 ∨ i = 9 ∨ i = 10 ∨ i = 11 ∨ i = 12 ∨ i = 13 ∨ i = 14 ∨ i = 15 ∨ i = 16 ∨ i = 17 ∨ i = 18 ∨ i = 19 ∨ i = 20 ∨ i = 21 ∨ i = 22 ∨ i = 23 ∨ i = 24 := by omega
  rcases hh with rfl | rfl | rfl | rfl | rfl | rfl | rfl | rfl | rfl | rfl | rfl | rfl | rfl | rfl | rfl | rfl | rfl | rfl | rfl | rfl | rfl | rfl | rfl | rfl | rfl
  · exact h0
  · exact h1
  · exact h2
  · exact h3
  · exact h4
  · exact h5
  · exact h6
  · exact h7
  · exact h8
  · exact h9
  · exact h10
  · exact h11
  · exact h12
  · exact h13
  · exact h14
  · exact h15
  · exact h16
  · exact h17
  · exact h18
  · exact h19
  · exact h20
  · exact h21
  · exact h22
  · exact h23
  · exact h24
/-- names of one sort on both sides -/
def NmS (cap n : Nat) (xs : Nat → Int32) (ys : Nat → Int64) : Prop := n ≤ cap ∧ ∀ i, i < n → ∃ v w, WR v w ∧ xs i = nI v ∧ ys i = lN w
theorem find2 {n0 qa n cap v w : Nat} {sort : Int32} {ys : Nat → Int64} {MX MY : Mem} (hw : WR v w) (hcap : LX.ln qa = cap) (hc6 : cap ≤ 6) (hN : NmS cap n (gA MX qa) ys) (hM : fX12_manyOf n0 (gI MY 34) sort MY = some (nI n, MY)) (hNm : ∀ i, i < n → fX12_nameOf n0 (gI MY 34) sort (nI i) MY = some (ys i, MY)) : ∀ (u j : Nat), j ≤ n → n < u + j → (∀ i, i < j → ¬ gA MX qa i = nI v) → ∃ r, loopN (bX9_find_2 n0 qa) (fun _ _ _ _ => none) u (nI n) (nI v) (nI j) MX = some (r, MX) ∧ loopN (bX12_named_3 n0) (fun _ _ _ _ => none) u sort (lN w) (nI j) MY = some (r, MY) ∧ ((r = -1 ∧ ∀ i, i < n → ¬ gA MX qa i = nI v) ∨ ∃ i, i < n ∧ r = nI i) := by
  intro u
  have hn := hN.1
  induction u with
  | zero => intro j _ h; omega
  | succ u ih =>
    intro j hj hu hne
    rw [lpS, lpS, bX9_find_2, bX12_named_3]
    by_cases h : n ≤ j
    · exact ⟨-1, eq_t (nI_le h (by omega)) rfl, eq_b hM (eq_t (nI_le h (by omega)) rfl), Or.inl ⟨rfl, fun i hi => hne i (by omega)⟩⟩
    · have g1 : ¬ nI n ≤ nI j := nI_ge (by omega) (by omega)
      have g2 : ¬ Int32.ofNat (LX.ln qa) ≤ nI j := by rw [hcap]; exact nI_ge (b := cap) (by omega) (by omega)
      have g3 : ¬ oob (nI j) (LX.ln qa) := by rw [hcap]; exact nI_in (by omega) (by omega)
      have hcl : (nI j).toNatClampNeg = j := nI_clamp (by omega)
      obtain ⟨v', w', hw', ex, ey⟩ := hN.2 j (by omega)
      by_cases e : gA MX qa j = nI v
      · refine ⟨nI j, eq_f g1 (eq_f g2 (eq_f g3 (eq_t (by rw [hcl]; exact e) rfl))), eq_b hM (eq_f g1 (eq_b (hNm j (by omega)) (eq_t ?_ rfl))), Or.inr ⟨j, by omega, rfl⟩⟩
        show lg_cmp (ys j) (lN w) = 0
        rw [ex] at e
        rw [ey, cmp0]
        exact (hw'.nI hw).mp e
      · obtain ⟨r, r1, r2, r3⟩ := ih (j + 1) (by omega) (by omega) (fun i hi => by
          by_cases q : i = j
          · rw [q]; exact e
          · exact hne i (by omega))
        refine ⟨r, eq_f g1 (eq_f g2 (eq_f g3 (eq_f (by rw [hcl]; exact e) (by rw [nI_1]; exact r1)))), eq_b hM (eq_f g1 (eq_b (hNm j (by omega)) (eq_f ?_ (by rw [nI_1]; exact r2)))), r3⟩
        show ¬ lg_cmp (ys j) (lN w) = 0
        rw [ex] at e
        rw [ey, cmp0]
        exact fun g => e ((hw'.nI hw).mpr g)
