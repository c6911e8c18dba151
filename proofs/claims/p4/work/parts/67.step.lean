/-! STEPS OF BOTH READERS: the state of reading, faults, tests of the token, skip and must, numbers -/
def FrY : Mem → Mem → Prop := Frm (fun j => (3 ≤ j ∧ j ≤ 6) ∨ j = 8 ∨ j = 9 ∨ j = 12) noN (fun j => j = 7) noN
theorem FrY.r {M : Mem} : FrY M M := Frm.r
theorem FrY.i {M M' : Mem} {k : Nat} {v : Int32} (h : FrY M M') (hk : (3 ≤ k ∧ k ≤ 6) ∨ k = 8 ∨ k = 9 ∨ k = 12) : FrY M (sI M' k v) := Frm.sI h hk
theorem FrY.tr {M M' M2 : Mem} (h : FrY M M') (h2 : FrY M' M2) : FrY M M2 := Frm.tr h h2
theorem FrA.Y {M M' : Mem} (h : FrA M M') : FrY M M' := Frm.wk h (fun k hk => by omega) (fun _ h => h) (fun _ h => h) (fun _ h => h)
theorem FI.wk {a b a' b' : Nat} {M M' : Mem} (h : FI a b M M') (h1 : a' ≤ a) (h2 : b ≤ b') : FI a' b' M M' := ⟨h.1, fun j hj => h.2 j (by omega)⟩
def PR (L s : Nat) (MX MY : Mem) : Prop := Lex0 L MX MY ∧ TokR L s MX MY ∧ gI MX 391 = 0 ∧ gI MX 392 = -1 ∧ gI MY 8 = 0 ∧ gI MY 9 = -1
def Flt (MX MY : Mem) : Prop := ∃ k, 1 ≤ k ∧ k ≤ 6 ∧ gI MX 391 = nI k ∧ gI MY 8 = nI k ∧ gI MY 9 = gI MX 392
theorem Flt.mk {k : Nat} {p : Int32} {MX MY : Mem} (h1 : 1 ≤ k) (h6 : k ≤ 6) : Flt (sI (sI MX 391 (nI k)) 392 p) (sI (sI MY 8 (nI k)) 9 p) := ⟨k, h1, h6, by rw [gI_ne (by decide), gI_at], by rw [gI_ne (by decide), gI_at], by rw [gI_at, gI_at]⟩
theorem Flt.pos {MX MY : Mem} (h : Flt MX MY) : ¬ gI MY 8 ≤ 0 := by
  obtain ⟨k, h1, h6, _, e, _⟩ := h
  rw [e]
  exact nI_nle h1 (by omega)
theorem pos_ne {x : Int32} (h : ¬ x ≤ 0) : ¬ x = 0 := fun e => h (by rw [e]; decide)
theorem PR.cong {L s : Nat} {MX MY MX' MY' : Mem} (h : PR L s MX MY) (h1 : ∀ j, 386 ≤ j → j ≤ 392 → gI MX' j = gI MX j) (h2 : gI MX' 641 = gI MX 641) (h3 : gA MX' 4 = gA MX 4) (h4 : gA MX' 6 = gA MX 6) (h5 : ∀ j, j ≤ 12 → gI MY' j = gI MY j) (h6 : gL MY' 7 = gL MY 7) (h7 : gA MY' 1 = gA MY 1) : PR L s MX' MY' := by
  unfold PR Lex0 TokR Beh at h ⊢
  rw [h2, h3, h4, h6, h7, h1 386 (by decide) (by decide), h1 387 (by decide) (by decide), h1 388 (by decide) (by decide), h1 389 (by decide) (by decide), h1 390 (by decide) (by decide), h1 391 (by decide) (by decide), h1 392 (by decide) (by decide), h5 2 (by decide), h5 3 (by decide), h5 4 (by decide), h5 5 (by decide), h5 6 (by decide), h5 8 (by decide), h5 9 (by decide), h5 12 (by decide)]
  exact h
theorem PR.adv3 {n0 L s : Nat} {MX MY : Mem} (hn : 1601 ≤ n0) (h : PR L s MX MY) (hs : s < L) : ∃ MX' MY' s', fX8_advance n0 MX = some MX' ∧ fX12_ahead n0 MY = some MY' ∧ s < s' ∧ PR L s' MX' MY' ∧ FI 386 390 MX MX' ∧ FrA MY MY' ∧ (gI MX 386 = 281 → s + 3 ≤ s') := by
  obtain ⟨h0, hT, f1, f2, f3, f4⟩ := h
  obtain ⟨t1, t2, t3, ⟨e, b1, b2, b3, b4, b5⟩, t5⟩ := hT
  obtain ⟨b6, b7, b8⟩ := b5 hs
  obtain ⟨MX', MY', s', ex, ey, hps, hT', fx, fy⟩ := adv2 hn h0 b4 b1 b2 b7
  refine ⟨MX', MY', s', ex, ey, by omega, ⟨?_, hT', ?_, ?_, ?_, ?_⟩, fx, fy, fun g => by have := b8 g; omega⟩
  · obtain ⟨c1, c2, c3, c4, c5, c6⟩ := h0
    refine ⟨(fx.2 641 (by omega)).trans c1, (fy.1 2 (by omega)).trans c2, c3, ?_, ?_, ?_⟩
    · rw [fy.2.1 1 id, fx.A]; exact c4
    · rw [fx.A]; exact c5
    · rw [fx.A]; exact c6
  · exact (fx.2 391 (by omega)).trans f1
  · exact (fx.2 392 (by omega)).trans f2
  · exact (fy.1 8 (by omega)).trans f3
  · exact (fy.1 9 (by omega)).trans f4
theorem PR.adv {n0 L s : Nat} {MX MY : Mem} (hn : 1601 ≤ n0) (h : PR L s MX MY) (hs : s < L) : ∃ MX' MY' s', fX8_advance n0 MX = some MX' ∧ fX12_ahead n0 MY = some MY' ∧ s < s' ∧ PR L s' MX' MY' ∧ FI 386 390 MX MX' ∧ FrA MY MY' := by
  obtain ⟨a, b, c, h1, h2, h3, h4, h5, h6, -⟩ := h.adv3 hn hs
  exact ⟨a, b, c, h1, h2, h3, h4, h5, h6⟩
-- faults
theorem xfail {n0 : Nat} {k p : Int32} {M : Mem} : fX8_fail n0 k p M = some (0, sI (sI M 391 k) 392 p) := rfl
theorem eq_b {α β : Type} {o : Option α} {k : α → Option β} {z : α} {r : Option β} (e : o = some z) (h : k z = r) : o.bind k = r := by rw [e]; exact h
theorem eq_t {ρ : Type} {c : Prop} [Decidable c] {a b r : ρ} (h : c) (h1 : a = r) : (if c then a else b) = r := by rw [if_pos h]; exact h1
theorem eq_f {ρ : Type} {c : Prop} [Decidable c] {a b r : ρ} (h : ¬ c) (h1 : b = r) : (if c then a else b) = r := by rw [if_neg h]; exact h1
theorem eq_n {α β : Type} {v : α} {k : α → Option β} {r : Option β} (h : k v = r) : bnd v k = r := h
theorem xfailH {n0 : Nat} {M : Mem} : fX8_failHere n0 M = some (0, sI (sI M 391 1) 392 (gI M 388)) := by
  unfold fX8_failHere
  exact eq_b xfail (eq_t (Or.inl rfl) rfl)
theorem yblame0 {n0 : Nat} {k p : Int32} {M : Mem} (h : gI M 8 = 0) : fX12_blame n0 k p M = some (sI (sI M 8 k) 9 p) := by
  unfold fX12_blame
  rw [h, if_pos (by decide)]
  rfl
theorem yblame1 {n0 : Nat} {k p : Int32} {M : Mem} (h : ¬ gI M 8 ≤ 0) : fX12_blame n0 k p M = some M := by
  unfold fX12_blame
  rw [if_neg h]
theorem ylexF {n0 : Nat} {M : Mem} (h : ¬ gI M 8 ≤ 0) : fX12_lex n0 M = some M := by
  unfold fX12_lex
  rw [yblame1 h]
  by_cases e : gI M 12 = -1
  · rw [if_pos e]
  · rw [if_neg e]; rfl
theorem nI_m1 {q : Nat} (h : q < 2 ^ 31) : ¬ nI q = -1 := fun e => by
  have := nI_pos (n := q) h
  rw [e] at this
  exact this (by decide)
theorem KR.bad {kd pl va sg lx vy : Int32} {wd : Int64} {L s : Nat} (h : KR kd pl va sg lx vy wd L s) (hk : kd = 258) : s < L ∧ ∃ q, q < L ∧ pl = nI q ∧ lx = nI q := by
  rcases h with h | h | h | h | h
  · rw [hk] at h; exact absurd h.1 (by decide)
  · exact ⟨h.2.1, h.2.2.2⟩
  · rw [hk] at h; exact absurd h.1 (by decide)
  · rw [hk] at h; exact absurd h.1.2 (by decide)
  · obtain ⟨_, _, _, _, v, w, k, _, hd, e, _⟩ := h
    rw [hk] at e
    have := (nI_eq (a := 258) (b := k) (by decide) (by rcases hd.1 with q | q <;> omega)).mp e
    rcases hd.1 with q | q <;> omega
theorem KR.good {kd pl va sg lx vy : Int32} {wd : Int64} {L s : Nat} (h : KR kd pl va sg lx vy wd L s) (hk : ¬ kd = 258) : lx = -1 ∧ pl = nI s := by
  rcases h with h | h | h | h | h
  · exact ⟨h.2.2.2.1, h.2.2.2.2⟩
  · exact absurd h.1 hk
  · exact ⟨h.2.2.2.1, h.2.2.2.2.1⟩
  · exact ⟨h.2.2.2.1, h.2.2.2.2.1⟩
  · exact ⟨h.2.2.1, h.2.2.2.1⟩
theorem ylexB {n0 L s : Nat} {MX MY : Mem} (h : PR L s MX MY) (hk : gI MX 386 = 258) : fX12_lex n0 MY = some (sI (sI MY 8 1) 9 (gI MX 388)) := by
  obtain ⟨h0, hT, _, _, f3, _⟩ := h
  obtain ⟨_, q, hq, e1, e2⟩ := hT.2.2.2.2.bad hk
  have := h0.2.2.1
  unfold fX12_lex
  rw [e2, if_neg (nI_m1 (by omega)), yblame0 f3, e1]
  rfl
theorem ylexG {n0 L s : Nat} {MX MY : Mem} (h : PR L s MX MY) (hk : ¬ gI MX 386 = 258) : fX12_lex n0 MY = some MY := by
  unfold fX12_lex
  rw [(h.2.1.2.2.2.2.good hk).1, if_pos rfl]
theorem PR.pl {L s : Nat} {MX MY : Mem} (h : PR L s MX MY) (hk : ¬ gI MX 386 = 258) : gI MX 388 = nI s := (h.2.1.2.2.2.2.good hk).2
theorem PR.at_ {L s : Nat} {MX MY : Mem} (h : PR L s MX MY) : gI MY 4 = nI s := h.2.1.2.1
theorem PR.st {L s : Nat} {MX MY : Mem} (h : PR L s MX MY) : gI MX 387 = nI s := h.2.1.1
theorem PR.f8 {L s : Nat} {MX MY : Mem} (h : PR L s MX MY) : gI MY 8 = 0 := h.2.2.2.2.1
theorem PR.L16 {L s : Nat} {MX MY : Mem} (h : PR L s MX MY) : L ≤ 1600 := h.1.2.2.1
theorem i00 : (0 : Int32) ≤ 0 := by decide
-- tests of the token
theorem KR.lt {kd pl va sg lx vy : Int32} {wd : Int64} {L s : Nat} (h : KR kd pl va sg lx vy wd L s) (hk : ¬ kd = 259) : s < L := by
  rcases h with h | h | h | h | h
  · exact absurd h.1 hk
  · exact h.2.1
  · exact h.2.1
  · exact h.2.1
  · exact h.1
theorem kdn {k : Nat} {v : Nat} (hd : kdOf v k) : ¬ (0 ≤ nI k ∧ nI k ≤ 255) := fun g => by
  have h1 : 257 ≤ k ∧ k ≤ 284 := by rcases hd.1 with q | q <;> omega
  have := (nI_leI (a := k) (b := 255) (by omega) (by decide)).mp g.2
  omega
theorem ySign {n0 L s : Nat} {MX MY : Mem} {c : Int32} (hc : 0 ≤ c ∧ c ≤ 255) (h : PR L s MX MY) : fX12_isSign n0 c MY = some (bI (gI MX 386 = c), MY) := by
  have hK := h.2.1.2.2.2.2
  unfold fX12_isSign
  have no : ¬ gI MY 3 = 3 → ¬ gI MX 386 = c → (if gI MY 3 = 3 then (if gI MY 6 = c then some ((1 : Int32), MY) else some (0, MY)) else some (0, MY)) = some (bI (gI MX 386 = c), MY) := fun a b => by rw [if_neg a, bI_f b]
  rcases hK with q | q | q | q | q
  · refine no (by rw [q.2.2.1]; decide) (fun e => ?_)
    rw [← e, q.1] at hc
    exact absurd hc.2 (by decide)
  · refine no (by rcases q.2.2.1 with g | g <;> rw [g] <;> decide) (fun e => ?_)
    rw [← e, q.1] at hc
    exact absurd hc.2 (by decide)
  · refine no (by rw [q.2.2.1]; decide) (fun e => ?_)
    rw [← e, q.1] at hc
    exact absurd hc.2 (by decide)
  · rw [if_pos q.2.2.1, q.2.2.2.2.2]
    by_cases e : gI MX 386 = c
    · rw [if_pos e, bI_t e]
    · rw [if_neg e, bI_f e]
  · refine no (by rw [q.2.1]; decide) (fun e => ?_)
    obtain ⟨_, _, _, _, v, w, k, _, hd, e1, _⟩ := q
    rw [← e, e1] at hc
    exact kdn hd hc
theorem yWord {n0 L s i : Nat} {MX MY : Mem} {y : Int64} {kk : Int32} (hi : i < 25) (hy : y = lN (ownL i)) (hk : kk = nI (260 + i)) (h : PR L s MX MY) (hb : ¬ gI MX 386 = 258) : fX12_isWord n0 y MY = some (bI (gI MX 386 = kk), MY) := by
  have hK := h.2.1.2.2.2.2
  subst hy hk
  unfold fX12_isWord
  have big : ¬ (nI (260 + i) = 259) ∧ ¬ (nI (260 + i) = 256) ∧ ¬ (nI (260 + i) ≤ 255) := ⟨fun e => by
    have := (nI_eq (a := 260 + i) (b := 259) (by omega) (by decide)).mp e
    omega, fun e => by
    have := (nI_eq (a := 260 + i) (b := 256) (by omega) (by decide)).mp e
    omega, fun e => by
    have := (nI_leI (a := 260 + i) (b := 255) (by omega) (by decide)).mp e
    omega⟩
  have no : ¬ gI MY 3 = 1 → ¬ gI MX 386 = nI (260 + i) → (if gI MY 3 = 1 then (if lg_cmp (gL MY 7) (lN (ownL i)) = 0 then some ((1 : Int32), MY) else some (0, MY)) else some (0, MY)) = some (bI (gI MX 386 = nI (260 + i)), MY) := fun a b => by rw [if_neg a, bI_f b]
  rcases hK with q | q | q | q | q
  · refine no (by rw [q.2.2.1]; decide) (fun e => ?_)
    rw [q.1] at e
    exact big.1 e.symm
  · exact absurd q.1 hb
  · refine no (by rw [q.2.2.1]; decide) (fun e => ?_)
    rw [q.1] at e
    exact big.2.1 e.symm
  · refine no (by rw [q.2.2.1]; decide) (fun e => ?_)
    have := q.1.2
    rw [e] at this
    exact big.2.2 this
  · obtain ⟨_, h3, _, _, v, w, k, hw, hd, e1, _, e3⟩ := q
    rw [if_pos h3, e3, e1]
    have hk2 : k < 2 ^ 31 := by rcases hd.1 with q | q <;> omega
    by_cases e : k = 260 + i
    · have hv := (hd.2 i hi).mp e
      rw [if_pos (cmp0.mpr ((pk_lEQ (Nat.lt_trans hw.w_lt (by decide)) (Nat.lt_trans (own_WR hi).w_lt (by decide))).mpr ((hw.iff (own_WR hi)).mp hv))), bI_t (by rw [e])]
    · rw [if_neg (fun g => e ((hd.2 i hi).mpr ((hw.iff (own_WR hi)).mpr ((pk_lEQ (Nat.lt_trans hw.w_lt (by decide)) (Nat.lt_trans (own_WR hi).w_lt (by decide))).mp (cmp0.mp g))))), bI_f (fun g => e ((nI_eq hk2 (by omega)).mp g))]
-- skip and must
def Out (L s : Nat) (MX MY : Mem) (FX FY : Mem → Mem → Prop) (rx : Option (Int32 × Mem)) (ry : Option Mem) : Prop :=
  (∃ MX' MY' s', rx = some (1, MX') ∧ ry = some MY' ∧ s < s' ∧ PR L s' MX' MY' ∧ FX MX MX' ∧ FY MY MY') ∨ (∃ MX' MY', rx = some (0, MX') ∧ ry = some MY' ∧ Flt MX' MY' ∧ FX MX MX' ∧ FY MY MY')
theorem FIf {M : Mem} {k p : Int32} : FI 386 392 M (sI (sI M 391 k) 392 p) := (FI.r.s (by decide) (by decide)).s (by decide) (by decide)
theorem FYf {M : Mem} {k p : Int32} : FrY M (sI (sI M 8 k) 9 p) := (FrY.r.i (by decide)).i (by decide)
theorem g8f {M : Mem} {k p : Int32} : gI (sI (sI M 8 k) 9 p) 8 = k := by rw [gI_ne (by decide), gI_at]
theorem bz {p : Prop} [Decidable p] (h : p) : ¬ bI p = 0 := fun q => bI_0.mp q h
theorem ymu {n0 : Nat} {M : Mem} (h : ¬ gI M 8 = 0) : fX12_must_21 n0 M = some M := by
  unfold fX12_must_21
  exact eq_f h rfl
theorem ymu2 {n0 : Nat} {M : Mem} (h : ¬ gI M 8 = 0) : fX12_must__29 n0 M = some M := by
  unfold fX12_must__29
  exact eq_f h rfl
theorem ySign2 {n0 : Nat} {c : Int32} {M : Mem} : fX12_isSign n0 c M = some (0, M) ∨ fX12_isSign n0 c M = some (1, M) := by
  unfold fX12_isSign
  by_cases g : gI M 3 = 3
  · by_cases g2 : gI M 6 = c
    · exact Or.inr (eq_t g (eq_t g2 rfl))
    · exact Or.inl (eq_t g (eq_f g2 rfl))
  · exact Or.inl (eq_f g rfl)
theorem ymustSF {n0 : Nat} {c : Int32} {M : Mem} (h : ¬ gI M 8 ≤ 0) : fX12_must n0 c M = some M := by
  unfold fX12_must
  refine eq_b (ylexF h) ?_
  rcases ySign2 (n0 := n0) (c := c) (M := M) with q | q
  · exact eq_b q (eq_t rfl (eq_b (yblame1 h) (ymu (pos_ne h))))
  · exact eq_b q (eq_f i10 (ymu (pos_ne h)))
theorem ymustF {n0 : Nat} {y : Int64} {M : Mem} (h : ¬ gI M 8 ≤ 0) : fX12_must_ n0 y M = some M := by
  unfold fX12_must_
  exact eq_b (ylexF h) (eq_f h rfl)
theorem n8f {M : Mem} {k : Nat} {p : Int32} (h1 : 1 ≤ k) (h6 : k ≤ 6) : ¬ gI (sI (sI M 8 (nI k)) 9 p) 8 ≤ 0 := by
  rw [g8f]
  exact nI_nle h1 (by omega)
theorem xskF {n0 : Nat} {c : Int32} {M : Mem} (hk : ¬ gI M 386 = c) : fX8_skip n0 c M = some (0, sI (sI M 391 1) 392 (gI M 388)) := by
  unfold fX8_skip
  exact eq_f hk (eq_b xfailH (eq_t (Or.inl rfl) rfl))
theorem skS {n0 L s : Nat} {MX MY : Mem} {c : Int32} (hn : 1601 ≤ n0) (hc : 0 ≤ c ∧ c ≤ 255) (h : PR L s MX MY) : Out L s MX MY (FI 386 392) FrY (fX8_skip n0 c MX) (fX12_must n0 c MY) := by
  by_cases hk : gI MX 386 = c
  · have h8 : ¬ gI MX 386 = 258 := fun e => by
      rw [← hk, e] at hc
      exact absurd hc.2 (by decide)
    have h9 : ¬ gI MX 386 = 259 := fun e => by
      rw [← hk, e] at hc
      exact absurd hc.2 (by decide)
    obtain ⟨MX', MY', s', ex, ey, hs, hP, fx, fy⟩ := h.adv hn (h.2.1.2.2.2.2.lt h9)
    refine Or.inl ⟨MX', MY', s', ?_, ?_, hs, hP, fx.wk (by decide) (by decide), fy.Y⟩
    · unfold fX8_skip
      exact eq_t hk (eq_b ex rfl)
    · unfold fX12_must
      refine eq_b (ylexG h h8) (eq_b (ySign hc h) (eq_f (bz hk) ?_))
      unfold fX12_must_21
      exact eq_t h.f8 (eq_b ey rfl)
  · refine Or.inr ⟨sI (sI MX 391 1) 392 (gI MX 388), sI (sI MY 8 1) 9 (gI MX 388), xskF hk, ?_, Flt.mk (k := 1) (by decide) (by decide), FIf, FYf⟩
    have h1 : ¬ gI (sI (sI MY 8 1) 9 (gI MX 388)) 8 ≤ 0 := n8f (k := 1) (by decide) (by decide)
    by_cases h8 : gI MX 386 = 258
    · unfold fX12_must
      refine eq_b (ylexB h h8) ?_
      rcases ySign2 (n0 := n0) (c := c) (M := sI (sI MY 8 1) 9 (gI MX 388)) with q | q
      · exact eq_b q (eq_t rfl (eq_b (yblame1 h1) (ymu (pos_ne h1))))
      · exact eq_b q (eq_f i10 (ymu (pos_ne h1)))
    · unfold fX12_must
      refine eq_b (ylexG h h8) (eq_b (ySign hc h) (eq_t (bI_f hk) (eq_b (yblame0 h.f8) ?_)))
      rw [show gI (bI (gI MX 386 = c), MY).2 4 = gI MX 388 from h.at_.trans (h.pl h8).symm]
      exact ymu (pos_ne h1)
theorem skW {n0 L s i : Nat} {MX MY : Mem} {y : Int64} {kk : Int32} (hn : 1601 ≤ n0) (hi : i < 25) (hy : y = lN (ownL i)) (hkk : kk = nI (260 + i)) (h : PR L s MX MY) : Out L s MX MY (FI 386 392) FrY (fX8_skip n0 kk MX) (fX12_must_ n0 y MY) := by
  by_cases hk : gI MX 386 = kk
  · have n258 : ¬ kk = 258 := fun e => by
      rw [hkk] at e
      have := (nI_eq (a := 260 + i) (b := 258) (by omega) (by decide)).mp e
      omega
    have n259 : ¬ kk = 259 := fun e => by
      rw [hkk] at e
      have := (nI_eq (a := 260 + i) (b := 259) (by omega) (by decide)).mp e
      omega
    have h8 : ¬ gI MX 386 = 258 := by rw [hk]; exact n258
    have h9 : ¬ gI MX 386 = 259 := by rw [hk]; exact n259
    obtain ⟨MX', MY', s', ex, ey, hs, hP, fx, fy⟩ := h.adv hn (h.2.1.2.2.2.2.lt h9)
    refine Or.inl ⟨MX', MY', s', ?_, ?_, hs, hP, fx.wk (by decide) (by decide), fy.Y⟩
    · unfold fX8_skip
      exact eq_t hk (eq_b ex rfl)
    · unfold fX12_must_
      refine eq_b (ylexG h h8) (eq_t (by rw [h.f8]; exact i00) (eq_b (yWord hi hy hkk h h8) (eq_f (bz hk) ?_)))
      unfold fX12_must__29
      exact eq_t h.f8 (eq_b ey rfl)
  · refine Or.inr ⟨sI (sI MX 391 1) 392 (gI MX 388), sI (sI MY 8 1) 9 (gI MX 388), xskF hk, ?_, Flt.mk (k := 1) (by decide) (by decide), FIf, FYf⟩
    have h1 : ¬ gI (sI (sI MY 8 1) 9 (gI MX 388)) 8 ≤ 0 := n8f (k := 1) (by decide) (by decide)
    unfold fX12_must_
    by_cases h8 : gI MX 386 = 258
    · exact eq_b (ylexB h h8) (eq_f h1 rfl)
    · refine eq_b (ylexG h h8) (eq_t (by rw [h.f8]; exact i00) (eq_b (yWord hi hy hkk h h8) (eq_t (bI_f hk) (eq_b (yblame0 h.f8) ?_))))
      rw [show gI (bI (gI MX 386 = kk), MY).2 4 = gI MX 388 from h.at_.trans (h.pl h8).symm]
      exact ymu2 (pos_ne h1)
