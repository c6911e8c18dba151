/-! MEASURES: the reference measures the told town's roads; it comes to an end and touches its own cells alone -/
theorem OnlyA.r {P : Nat → Nat → Prop} {M : Mem} : OnlyA P M M := ⟨rfl, rfl, rfl, rfl, fun _ _ _ => rfl⟩
theorem OnlyA.tr {P : Nat → Nat → Prop} {M M' M2 : Mem} (h : OnlyA P M M') (g : OnlyA P M' M2) : OnlyA P M M2 := ⟨g.1.trans h.1, g.2.1.trans h.2.1, g.2.2.1.trans h.2.2.1, g.2.2.2.1.trans h.2.2.2.1, fun a i q => (g.2.2.2.2 a i q).trans (h.2.2.2.2 a i q)⟩
theorem OnlyA.s {P : Nat → Nat → Prop} {M M' : Mem} {a i : Nat} {v : Int32} (h : OnlyA P M M') (hk : P a i) : OnlyA P M (sA M' a i v) := ⟨h.1, h.2.1, h.2.2.1, h.2.2.2.1, fun c j q => by
  rw [gA_sA]
  by_cases e : c = a
  · subst e
    rw [if_pos rfl, if_neg (fun e => q (by rw [e]; exact hk))]
    exact h.2.2.2.2 _ _ q
  · rw [if_neg e]
    exact h.2.2.2.2 _ _ q⟩
def P9 (b : Nat) : Nat → Nat → Prop := fun e i => e = 9 ∧ 25 * b ≤ i ∧ i < 25 * b + 25
theorem m76 {n0 i : Nat} {k2 : Int32 → Mem → Option Mem} {k9 : Int32 → Int32 → Mem → Option Mem} {x1 x2 v : Int32} {M : Mem} (hi : i < 50) : fX12_measures_76 n0 k2 k9 x1 x2 (nI i) v M = k9 x1 (x2 + 1) (sA M 9 i v) := by
  unfold fX12_measures_76
  refine eq_f (nI_in hi (by decide)) (eq_n ?_)
  rw [nI_clamp (by omega)]
theorem m9 {n0 b a : Nat} {k2 : Int32 → Mem → Option Mem} (hb : b ≤ 1) (ha : a < 5) : ∀ (w c : Nat) (M : Mem), c ≤ 5 → 5 < w + c → gI M 34 = nI b → ∃ M', loopN (bX12_measures_9 n0 k2) (fun _ _ _ => none) w (nI a) (nI c) M = k2 (nI (a + 1)) M' ∧ OnlyA (P9 b) M M' := by
  intro w
  induction w with
  | zero => intro c M _ h; omega
  | succ w ih =>
    intro c M hc hw h34
    rw [lpS, bX12_measures_9]
    by_cases g : 5 ≤ c
    · exact ⟨M, eq_t (nI_le (a := 5) g (by omega)) (by rw [nI_1]), OnlyA.r⟩
    · have ea : fX12_at n0 (gI M 34) (nI a) (nI c) M = some (nI (25 * b + (5 * a + c)), M) := by rw [h34]; exact yat
      have key : ∀ v, ∃ M', loopN (bX12_measures_9 n0 k2) (fun _ _ _ => none) w (nI a) (nI c + 1) (sA M 9 (25 * b + (5 * a + c)) v) = k2 (nI (a + 1)) M' ∧ OnlyA (P9 b) M M' := fun v => by
        obtain ⟨M', e1, e2⟩ := ih (c + 1) (sA M 9 (25 * b + (5 * a + c)) v) (by omega) (by omega) h34
        exact ⟨M', by rw [nI_1]; exact e1, (OnlyA.r.s (by unfold P9; omega)).tr e2⟩
      have o : ¬ oob (nI (25 * b + (5 * a + c))) 50 := nI_in (by omega) (by decide)
      by_cases g1 : nI a = nI c
      · obtain ⟨M', e1, e2⟩ := key 0
        exact ⟨M', eq_f (nI_ge (b := 5) (by omega) (by decide)) (eq_b ea (eq_t g1 ((m76 (by omega)).trans e1))), e2⟩
      · by_cases g2 : gA M 8 (Int32.toNatClampNeg (nI (25 * b + (5 * a + c)))) ≤ 0
        · obtain ⟨M', e1, e2⟩ := key 100000000
          exact ⟨M', eq_f (nI_ge (b := 5) (by omega) (by decide)) (eq_b ea (eq_f g1 (eq_b ea (eq_f o (eq_t g2 ((m76 (by omega)).trans e1)))))), e2⟩
        · obtain ⟨M', e1, e2⟩ := key (gA M 8 (Int32.toNatClampNeg (nI (25 * b + (5 * a + c)))))
          exact ⟨M', eq_f (nI_ge (b := 5) (by omega) (by decide)) (eq_b ea (eq_f g1 (eq_b ea (eq_f o (eq_f g2 (eq_b ea (eq_f o ((m76 (by omega)).trans e1)))))))), e2⟩
theorem m105 {n0 b a i : Nat} {k91 : Int32 → Mem → Option Mem} {k98 : Int32 → Int32 → Mem → Option Mem} (hb : b ≤ 1) (ha : a < 5) (hi : i < 5) : ∀ (w c : Nat) (M : Mem), c ≤ 5 → 5 < w + c → gI M 34 = nI b → ∃ M', loopN (bX12_measures_105 n0 k91 k98) (fun _ _ _ _ => none) w (nI a) (nI i) (nI c) M = k98 (nI a) (nI (i + 1)) M' ∧ OnlyA (P9 b) M M' := by
  intro w
  induction w with
  | zero => intro c M _ h; omega
  | succ w ih =>
    intro c M hc hw h34
    rw [lpS, bX12_measures_105]
    by_cases g : 5 ≤ c
    · exact ⟨M, eq_t (nI_le (a := 5) g (by omega)) (by rw [nI_1]), OnlyA.r⟩
    · have ea : fX12_at n0 (gI M 34) (nI i) (nI a) M = some (nI (25 * b + (5 * i + a)), M) := by rw [h34]; exact yat
      have eb : fX12_at n0 (gI M 34) (nI a) (nI c) M = some (nI (25 * b + (5 * a + c)), M) := by rw [h34]; exact yat
      have ec : fX12_at n0 (gI M 34) (nI i) (nI c) M = some (nI (25 * b + (5 * i + c)), M) := by rw [h34]; exact yat
      have oa : ¬ oob (nI (25 * b + (5 * i + a))) 50 := nI_in (by omega) (by decide)
      have ob : ¬ oob (nI (25 * b + (5 * a + c))) 50 := nI_in (by omega) (by decide)
      have oc : ¬ oob (nI (25 * b + (5 * i + c))) 50 := nI_in (by omega) (by decide)
      have hcl : (nI (25 * b + (5 * i + c))).toNatClampNeg = 25 * b + (5 * i + c) := nI_clamp (by omega)
      by_cases g2 : gA M 9 (Int32.toNatClampNeg (nI (25 * b + (5 * i + c)))) ≤ gA M 9 (Int32.toNatClampNeg (nI (25 * b + (5 * i + a)))) + gA M 9 (Int32.toNatClampNeg (nI (25 * b + (5 * a + c))))
      · obtain ⟨M', e1, e2⟩ := ih (c + 1) M (by omega) (by omega) h34
        refine ⟨M', eq_f (nI_ge (b := 5) (by omega) (by decide)) (eq_b ea (eq_f oa (eq_b eb (eq_f ob (eq_n (eq_b ec (eq_f oc (eq_t g2 ?_)))))))), e2⟩
        unfold fX12_measures_180
        rw [nI_1]
        exact e1
      · obtain ⟨M', e1, e2⟩ := ih (c + 1) (sA M 9 (25 * b + (5 * i + c)) (gA M 9 (Int32.toNatClampNeg (nI (25 * b + (5 * i + a)))) + gA M 9 (Int32.toNatClampNeg (nI (25 * b + (5 * a + c)))))) (by omega) (by omega) h34
        refine ⟨M', eq_f (nI_ge (b := 5) (by omega) (by decide)) (eq_b ea (eq_f oa (eq_b eb (eq_f ob (eq_n (eq_b ec (eq_f oc (eq_f g2 (eq_b ec (eq_f oc ?_)))))))))), (OnlyA.r.s (by unfold P9; omega)).tr e2⟩
        unfold fX12_measures_180
        rw [nI_1]
        simp only [hcl]
        exact e1
theorem m98 {n0 b a : Nat} {k91 : Int32 → Mem → Option Mem} (hn : 1700 ≤ n0) (hb : b ≤ 1) (ha : a < 5) : ∀ (w c : Nat) (M : Mem), c ≤ 5 → 5 < w + c → gI M 34 = nI b → ∃ M', loopN (bX12_measures_98 n0 k91) (fun _ _ _ => none) w (nI a) (nI c) M = k91 (nI (a + 1)) M' ∧ OnlyA (P9 b) M M' := by
  intro w
  induction w with
  | zero => intro c M _ h; omega
  | succ w ih =>
    intro c M hc hw h34
    rw [lpS, bX12_measures_98]
    by_cases g : 5 ≤ c
    · exact ⟨M, eq_t (nI_le (a := 5) g (by omega)) (by rw [nI_1]), OnlyA.r⟩
    · obtain ⟨M1, d1, d2⟩ := m105 (n0 := n0) (k91 := k91) (k98 := loopN (bX12_measures_98 n0 k91) (fun _ _ _ => none) w) hb ha (show c < 5 by omega) n0 0 M (by omega) (by omega) h34
      obtain ⟨M', e1, e2⟩ := ih (c + 1) M1 (by omega) (by omega) (by rw [d2.1]; exact h34)
      exact ⟨M', eq_f (nI_ge (b := 5) (by omega) (by decide)) (d1.trans e1), d2.tr e2⟩
theorem m91 {n0 b : Nat} (hn : 1700 ≤ n0) (hb : b ≤ 1) : ∀ (w c : Nat) (M : Mem), c ≤ 5 → 5 < w + c → gI M 34 = nI b → ∃ M', loopN (bX12_measures_91 n0) (fun _ _ => none) w (nI c) M = some M' ∧ OnlyA (P9 b) M M' := by
  intro w
  induction w with
  | zero => intro c M _ h; omega
  | succ w ih =>
    intro c M hc hw h34
    rw [lpS, bX12_measures_91]
    by_cases g : 5 ≤ c
    · exact ⟨M, eq_t (nI_le (a := 5) g (by omega)) rfl, OnlyA.r⟩
    · obtain ⟨M1, d1, d2⟩ := m98 (n0 := n0) (k91 := loopN (bX12_measures_91 n0) (fun _ _ => none) w) hn hb (show c < 5 by omega) n0 0 M (by omega) (by omega) h34
      obtain ⟨M', e1, e2⟩ := ih (c + 1) M1 (by omega) (by omega) (by rw [d2.1]; exact h34)
      exact ⟨M', eq_f (nI_ge (b := 5) (by omega) (by decide)) (d1.trans e1), d2.tr e2⟩
theorem m2 {n0 b : Nat} (hn : 1700 ≤ n0) (hb : b ≤ 1) : ∀ (w c : Nat) (M : Mem), c ≤ 5 → 5 < w + c → gI M 34 = nI b → ∃ M', loopN (bX12_measures_2 n0) (fun _ _ => none) w (nI c) M = some M' ∧ OnlyA (P9 b) M M' := by
  intro w
  induction w with
  | zero => intro c M _ h; omega
  | succ w ih =>
    intro c M hc hw h34
    rw [lpS, bX12_measures_2]
    by_cases g : 5 ≤ c
    · obtain ⟨M', e1, e2⟩ := m91 (n0 := n0) hn hb n0 0 M (by omega) (by omega) h34
      exact ⟨M', eq_t (nI_le (a := 5) g (by omega)) e1, e2⟩
    · obtain ⟨M1, d1, d2⟩ := m9 (n0 := n0) (k2 := loopN (bX12_measures_2 n0) (fun _ _ => none) w) hb (show c < 5 by omega) n0 0 M (by omega) (by omega) h34
      obtain ⟨M', e1, e2⟩ := ih (c + 1) M1 (by omega) (by omega) (by rw [d2.1]; exact h34)
      exact ⟨M', eq_f (nI_ge (b := 5) (by omega) (by decide)) (d1.trans e1), d2.tr e2⟩
theorem measures {n0 b : Nat} {M : Mem} (hn : 1700 ≤ n0) (hb : b ≤ 1) (h34 : gI M 34 = nI b) : ∃ M', fX12_measures n0 M = some M' ∧ OnlyA (P9 b) M M' := m2 hn hb n0 0 M (by omega) (by omega) h34
