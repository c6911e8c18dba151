/-! MEASURES, THEIR VALUE: ways of the reference (Floyd-Warshall over five corners) -/
def F9 (b : Nat) (F : Nat → Nat → Nat) (M : Mem) : Prop := ∀ i j, i < 5 → j < 5 → gA M 9 (25 * b + (5 * i + j)) = nI (F i j)
def S8 (b : Nat) (S : Nat → Nat → Nat) (M : Mem) : Prop := ∀ i j, i < 5 → j < 5 → gA M 8 (25 * b + (5 * i + j)) = nI (S i j) ∧ S i j ≤ 30
def mnF (F : Nat → Nat → Nat) (k i j : Nat) : Nat := min (F i j) (F i k + F k j)
def ptF (F : Nat → Nat → Nat) (k r c i j : Nat) : Nat := if i < r ∨ (i = r ∧ j < c) then mnF F k i j else F i j
theorem F9.cg {b : Nat} {F G : Nat → Nat → Nat} {M : Mem} (h : F9 b F M) (e : ∀ i j, i < 5 → j < 5 → F i j = G i j) : F9 b G M := fun i j hi hj => by rw [← e i j hi hj]; exact h i j hi hj
theorem mn_r {F : Nat → Nat → Nat} {k i : Nat} (h : F k k = 0) : mnF F k i k = F i k := by unfold mnF; rw [h]; omega
theorem mn_c {F : Nat → Nat → Nat} {k j : Nat} (h : F k k = 0) : mnF F k k j = F k j := by unfold mnF; rw [h]; omega
theorem pt_r {F : Nat → Nat → Nat} {k r c i : Nat} (h : F k k = 0) : ptF F k r c i k = F i k := by
  unfold ptF
  by_cases g : i < r ∨ (i = r ∧ k < c)
  · rw [if_pos g]; exact mn_r h
  · rw [if_neg g]
theorem pt_c {F : Nat → Nat → Nat} {k r c j : Nat} (h : F k k = 0) : ptF F k r c k j = F k j := by
  unfold ptF
  by_cases g : k < r ∨ (k = r ∧ j < c)
  · rw [if_pos g]; exact mn_c h
  · rw [if_neg g]
/-- what the distances keep: k corners are through -/
def InvF (S : Nat → Nat → Nat) (k : Nat) (F : Nat → Nat → Nat) : Prop :=
  (∀ i, i < 5 → F i i = 0) ∧ (∀ i j, i < 5 → j < 5 → F i j ≤ 100000000) ∧ (∀ i j, i < 5 → j < 5 → 0 < S i j → F i j ≤ S i j) ∧ (∀ m, m < k → ∀ i j, i < 5 → j < 5 → F i j ≤ F i m + F m j) ∧ ∀ i j, i < 5 → j < 5 → i ≠ j → F i j < 100000000 → ∃ u, u < 5 ∧ 0 < S u j ∧ F i u + S u j ≤ F i j
theorem InvF.step {S F : Nat → Nat → Nat} {k : Nat} (h : InvF S k F) (hk : k < 5) : InvF S (k + 1) (mnF F k) := by
  obtain ⟨h1, h2, h3, h4, h5⟩ := h
  refine ⟨fun i hi => ?_, fun i j hi hj => ?_, fun i j hi hj hs => ?_, fun m hm i j hi hj => ?_, fun i j hi hj hij hf => ?_⟩
  · unfold mnF; rw [h1 i hi]; omega
  · unfold mnF; have := h2 i j hi hj; omega
  · unfold mnF; have := h3 i j hi hj hs; omega
  · by_cases g : m = k
    · subst g
      rw [mn_r (h1 m hk), mn_c (h1 m hk)]
      unfold mnF
      omega
    · have hm' : m < k := by omega
      have a1 := h4 m hm' i j hi hj
      have a2 := h4 m hm' k j hk hj
      have a3 := h4 m hm' i k hi hk
      unfold mnF
      omega
  · by_cases g : F i j ≤ F i k + F k j
    · have e : mnF F k i j = F i j := by unfold mnF; omega
      rw [e] at hf ⊢
      obtain ⟨u, u1, u2, u3⟩ := h5 i j hi hj hij hf
      exact ⟨u, u1, u2, by unfold mnF; omega⟩
    · have e : mnF F k i j = F i k + F k j := by unfold mnF; omega
      rw [e] at hf ⊢
      have kj : k ≠ j := fun z => by
        subst z
        rw [h1 k hk] at g
        omega
      obtain ⟨u, u1, u2, u3⟩ := h5 k j hk hj kj (by omega)
      exact ⟨u, u1, u2, by unfold mnF; omega⟩
/-- the first row of ways -/
def ini (S : Nat → Nat → Nat) (i j : Nat) : Nat := if i = j then 0 else if S i j = 0 then 100000000 else S i j
theorem InvF_first {S : Nat → Nat → Nat} (hS : ∀ i j, i < 5 → j < 5 → S i j ≤ 30) : InvF S 0 (ini S) := by
  refine ⟨fun i _ => if_pos rfl, fun i j hi hj => ?_, fun i j hi hj hs => ?_, fun m hm => by omega, fun i j hi hj hij hf => ?_⟩
  · unfold ini; have := hS i j hi hj; split <;> first | omega | (split <;> omega)
  · unfold ini; split <;> first | omega | (split <;> omega)
  · unfold ini at hf
    rw [if_neg hij] at hf
    by_cases g : S i j = 0
    · rw [if_pos g] at hf; omega
    · refine ⟨i, hi, by omega, ?_⟩
      unfold ini
      rw [if_pos rfl, if_neg hij, if_neg g]
      omega
theorem F9.set {b i j : Nat} {F G : Nat → Nat → Nat} {M : Mem} {v : Nat} (h : F9 b F M) (hi : i < 5) (hj : j < 5) (e : ∀ a c, a < 5 → c < 5 → G a c = if a = i ∧ c = j then v else F a c) : F9 b G (sA M 9 (25 * b + (5 * i + j)) (nI v)) := fun a c ha hc => by
  rw [gA_sA, if_pos rfl, e a c ha hc]
  by_cases g : a = i ∧ c = j
  · rw [if_pos (by omega), if_pos g]
  · rw [if_neg (by omega), if_neg g]
    exact h a c ha hc
theorem m105v {n0 b a i : Nat} {F : Nat → Nat → Nat} {k91 : Int32 → Mem → Option Mem} {k98 : Int32 → Int32 → Mem → Option Mem} (hb : b ≤ 1) (ha : a < 5) (hi : i < 5) (h0 : F a a = 0) (hF : ∀ i j, i < 5 → j < 5 → F i j ≤ 100000000) : ∀ (w c : Nat) (M : Mem), c ≤ 5 → 5 < w + c → gI M 34 = nI b → F9 b (ptF F a i c) M → ∃ M', loopN (bX12_measures_105 n0 k91 k98) (fun _ _ _ _ => none) w (nI a) (nI i) (nI c) M = k98 (nI a) (nI (i + 1)) M' ∧ OnlyA (P9 b) M M' ∧ F9 b (ptF F a (i + 1) 0) M' := by
  intro w
  induction w with
  | zero => intro c M _ h; omega
  | succ w ih =>
    intro c M hc hw h34 h9
    rw [lpS, bX12_measures_105]
    by_cases g : 5 ≤ c
    · exact ⟨M, eq_t (nI_le (a := 5) g (by omega)) (by rw [nI_1]), OnlyA.r, h9.cg (fun x y hx hy => by
        unfold ptF
        by_cases z : x < i ∨ (x = i ∧ y < c)
        · rw [if_pos z, if_pos (by omega)]
        · rw [if_neg z, if_neg (by omega)])⟩
    · have ea : fX12_at n0 (gI M 34) (nI i) (nI a) M = some (nI (25 * b + (5 * i + a)), M) := by rw [h34]; exact yat
      have eb : fX12_at n0 (gI M 34) (nI a) (nI c) M = some (nI (25 * b + (5 * a + c)), M) := by rw [h34]; exact yat
      have ec : fX12_at n0 (gI M 34) (nI i) (nI c) M = some (nI (25 * b + (5 * i + c)), M) := by rw [h34]; exact yat
      have oa : ¬ oob (nI (25 * b + (5 * i + a))) 50 := nI_in (by omega) (by decide)
      have ob : ¬ oob (nI (25 * b + (5 * a + c))) 50 := nI_in (by omega) (by decide)
      have oc : ¬ oob (nI (25 * b + (5 * i + c))) 50 := nI_in (by omega) (by decide)
      have hca : (nI (25 * b + (5 * i + a))).toNatClampNeg = 25 * b + (5 * i + a) := nI_clamp (by omega)
      have hcb : (nI (25 * b + (5 * a + c))).toNatClampNeg = 25 * b + (5 * a + c) := nI_clamp (by omega)
      have hcl : (nI (25 * b + (5 * i + c))).toNatClampNeg = 25 * b + (5 * i + c) := nI_clamp (by omega)
      have va : gA M 9 (Int32.toNatClampNeg (nI (25 * b + (5 * i + a)))) = nI (F i a) := by rw [hca, h9 i a hi ha, pt_r h0]
      have vb : gA M 9 (Int32.toNatClampNeg (nI (25 * b + (5 * a + c)))) = nI (F a c) := by rw [hcb, h9 a c ha (by omega), pt_c h0]
      have pc : ptF F a i c i c = F i c := by unfold ptF; rw [if_neg (by omega)]
      have vc : gA M 9 (Int32.toNatClampNeg (nI (25 * b + (5 * i + c)))) = nI (F i c) := by rw [hcl, h9 i c hi (by omega), pc]
      have ev : gA M 9 (Int32.toNatClampNeg (nI (25 * b + (5 * i + a)))) + gA M 9 (Int32.toNatClampNeg (nI (25 * b + (5 * a + c)))) = nI (F i a + F a c) := by rw [va, vb, nI_add]
      have l1 := hF i a hi ha
      have l2 := hF a c ha (by omega)
      have l3 := hF i c hi (by omega)
      have pn : ∀ x y, ¬ (x = i ∧ y = c) → ptF F a i (c + 1) x y = ptF F a i c x y := fun x y z => by
        unfold ptF
        by_cases u : x < i ∨ (x = i ∧ y < c)
        · rw [if_pos u, if_pos (by omega)]
        · rw [if_neg u, if_neg (by omega)]
      have pm : ptF F a i (c + 1) i c = mnF F a i c := by unfold ptF; rw [if_pos (by omega)]
      by_cases g2 : F i c ≤ F i a + F a c
      · obtain ⟨M', e1, e2, e3⟩ := ih (c + 1) M (by omega) (by omega) h34 (h9.cg (fun x y hx hy => by
          by_cases z : x = i ∧ y = c
          · rw [z.1, z.2, pm, pc]
            unfold mnF
            omega
          · exact (pn x y z).symm))
        refine ⟨M', eq_f (nI_ge (b := 5) (by omega) (by decide)) (eq_b ea (eq_f oa (eq_b eb (eq_f ob (eq_e (v' := nI (F i a + F a c)) ev (eq_b ec (eq_f oc (eq_t ?_ ?_)))))))), e2, e3⟩
        · rw [vc]
          exact nI_le g2 (by omega)
        · unfold fX12_measures_180
          rw [nI_1]
          exact e1
      · obtain ⟨M', e1, e2, e3⟩ := ih (c + 1) (sA M 9 (25 * b + (5 * i + c)) (nI (F i a + F a c))) (by omega) (by omega) h34 (h9.set hi (by omega) (fun x y hx hy => by
          by_cases z : x = i ∧ y = c
          · rw [if_pos z, z.1, z.2, pm]
            unfold mnF
            omega
          · rw [if_neg z]
            exact pn x y z))
        refine ⟨M', eq_f (nI_ge (b := 5) (by omega) (by decide)) (eq_b ea (eq_f oa (eq_b eb (eq_f ob (eq_e (v' := nI (F i a + F a c)) ev (eq_b ec (eq_f oc (eq_f ?_ (eq_b ec (eq_f oc ?_)))))))))), (OnlyA.r.s (by unfold P9; omega)).tr e2, e3⟩
        · rw [vc]
          exact nI_ge (by omega) (by omega)
        · unfold fX12_measures_180
          rw [nI_1]
          simp only [hcl]
          exact e1
theorem m98v {n0 b a : Nat} {F : Nat → Nat → Nat} {k91 : Int32 → Mem → Option Mem} (hn : 1700 ≤ n0) (hb : b ≤ 1) (ha : a < 5) (h0 : F a a = 0) (hF : ∀ i j, i < 5 → j < 5 → F i j ≤ 100000000) : ∀ (w c : Nat) (M : Mem), c ≤ 5 → 5 < w + c → gI M 34 = nI b → F9 b (ptF F a c 0) M → ∃ M', loopN (bX12_measures_98 n0 k91) (fun _ _ _ => none) w (nI a) (nI c) M = k91 (nI (a + 1)) M' ∧ OnlyA (P9 b) M M' ∧ F9 b (mnF F a) M' := by
  intro w
  induction w with
  | zero => intro c M _ h; omega
  | succ w ih =>
    intro c M hc hw h34 h9
    rw [lpS, bX12_measures_98]
    by_cases g : 5 ≤ c
    · exact ⟨M, eq_t (nI_le (a := 5) g (by omega)) (by rw [nI_1]), OnlyA.r, h9.cg (fun x y hx hy => by unfold ptF; rw [if_pos (by omega)])⟩
    · obtain ⟨M1, d1, d2, d3⟩ := m105v (n0 := n0) (k91 := k91) (k98 := loopN (bX12_measures_98 n0 k91) (fun _ _ _ => none) w) hb ha (show c < 5 by omega) h0 hF n0 0 M (by omega) (by omega) h34 h9
      obtain ⟨M', e1, e2, e3⟩ := ih (c + 1) M1 (by omega) (by omega) (by rw [d2.1]; exact h34) d3
      exact ⟨M', eq_f (nI_ge (b := 5) (by omega) (by decide)) (d1.trans e1), d2.tr e2, e3⟩
theorem m91v {n0 b : Nat} {S : Nat → Nat → Nat} (hn : 1700 ≤ n0) (hb : b ≤ 1) : ∀ (w c : Nat) (M : Mem) (F : Nat → Nat → Nat), c ≤ 5 → 5 < w + c → gI M 34 = nI b → F9 b F M → InvF S c F → ∃ M' F', loopN (bX12_measures_91 n0) (fun _ _ => none) w (nI c) M = some M' ∧ OnlyA (P9 b) M M' ∧ F9 b F' M' ∧ InvF S 5 F' := by
  intro w
  induction w with
  | zero => intro c M F _ h; omega
  | succ w ih =>
    intro c M F hc hw h34 h9 hI
    rw [lpS, bX12_measures_91]
    by_cases g : 5 ≤ c
    · have e : c = 5 := by omega
      subst e
      exact ⟨M, F, eq_t (nI_le (a := 5) g (by omega)) rfl, OnlyA.r, h9, hI⟩
    · obtain ⟨M1, d1, d2, d3⟩ := m98v (n0 := n0) (k91 := loopN (bX12_measures_91 n0) (fun _ _ => none) w) hn hb (show c < 5 by omega) (hI.1 c (by omega)) hI.2.1 n0 0 M (by omega) (by omega) h34 (h9.cg (fun x y _ _ => by unfold ptF; rw [if_neg (by omega)]))
      obtain ⟨M', F', e1, e2, e3, e4⟩ := ih (c + 1) M1 (mnF F c) (by omega) (by omega) (by rw [d2.1]; exact h34) d3 (hI.step (by omega))
      exact ⟨M', F', eq_f (nI_ge (b := 5) (by omega) (by decide)) (d1.trans e1), d2.tr e2, e3, e4⟩
/-- rows a' < a, and of row a the columns below c, are laid -/
def ltF (b : Nat) (S : Nat → Nat → Nat) (a c : Nat) (M : Mem) : Prop := ∀ i j, i < 5 → j < 5 → (i < a ∨ (i = a ∧ j < c)) → gA M 9 (25 * b + (5 * i + j)) = nI (ini S i j)
theorem m9v {n0 b a : Nat} {S : Nat → Nat → Nat} {k2 : Int32 → Mem → Option Mem} (hb : b ≤ 1) (ha : a < 5) : ∀ (w c : Nat) (M : Mem), c ≤ 5 → 5 < w + c → gI M 34 = nI b → S8 b S M → ltF b S a c M → ∃ M', loopN (bX12_measures_9 n0 k2) (fun _ _ _ => none) w (nI a) (nI c) M = k2 (nI (a + 1)) M' ∧ OnlyA (P9 b) M M' ∧ ltF b S (a + 1) 0 M' := by
  intro w
  induction w with
  | zero => intro c M _ h; omega
  | succ w ih =>
    intro c M hc hw h34 h8 hl
    rw [lpS, bX12_measures_9]
    by_cases g : 5 ≤ c
    · exact ⟨M, eq_t (nI_le (a := 5) g (by omega)) (by rw [nI_1]), OnlyA.r, fun i j hi hj z => hl i j hi hj (by omega)⟩
    · have ea : fX12_at n0 (gI M 34) (nI a) (nI c) M = some (nI (25 * b + (5 * a + c)), M) := by rw [h34]; exact yat
      have hcl : (nI (25 * b + (5 * a + c))).toNatClampNeg = 25 * b + (5 * a + c) := nI_clamp (by omega)
      have v8 := h8 a c ha (by omega)
      have key : ∀ v, v = nI (ini S a c) → ∃ M', loopN (bX12_measures_9 n0 k2) (fun _ _ _ => none) w (nI a) (nI c + 1) (sA M 9 (25 * b + (5 * a + c)) v) = k2 (nI (a + 1)) M' ∧ OnlyA (P9 b) M M' ∧ ltF b S (a + 1) 0 M' := fun v ev => by
        obtain ⟨M', e1, e2, e3⟩ := ih (c + 1) (sA M 9 (25 * b + (5 * a + c)) v) (by omega) (by omega) h34 (fun i j hi hj => by rw [gA_sA_ne (by decide)]; exact h8 i j hi hj) (fun i j hi hj z => by
          rw [gA_sA, if_pos rfl]
          by_cases y : i = a ∧ j = c
          · rw [if_pos (by omega), ev, y.1, y.2]
          · rw [if_neg (by omega)]
            exact hl i j hi hj (by omega))
        exact ⟨M', by rw [nI_1]; exact e1, (OnlyA.r.s (by unfold P9; omega)).tr e2, e3⟩
      have o : ¬ oob (nI (25 * b + (5 * a + c))) 50 := nI_in (by omega) (by decide)
      by_cases g1 : a = c
      · obtain ⟨M', e1, e2⟩ := key 0 (by unfold ini; rw [if_pos g1]; rfl)
        exact ⟨M', eq_f (nI_ge (b := 5) (by omega) (by decide)) (eq_b ea (eq_t (congrArg nI g1) ((m76 (by omega)).trans e1))), e2⟩
      · have g1' : ¬ nI a = nI c := fun z => g1 ((nI_eq (by omega) (by omega)).mp z)
        by_cases g2 : S a c = 0
        · obtain ⟨M', e1, e2⟩ := key 100000000 (by unfold ini; rw [if_neg g1, if_pos g2]; rfl)
          exact ⟨M', eq_f (nI_ge (b := 5) (by omega) (by decide)) (eq_b ea (eq_f g1' (eq_b ea (eq_f o (eq_t (show gA M 8 _ ≤ 0 by rw [hcl, v8.1, g2]; decide) ((m76 (by omega)).trans e1)))))), e2⟩
        · obtain ⟨M', e1, e2⟩ := key (gA M 8 (Int32.toNatClampNeg (nI (25 * b + (5 * a + c))))) (by unfold ini; rw [if_neg g1, if_neg g2, hcl]; exact v8.1)
          exact ⟨M', eq_f (nI_ge (b := 5) (by omega) (by decide)) (eq_b ea (eq_f g1' (eq_b ea (eq_f o (eq_f (show ¬ gA M 8 _ ≤ 0 by rw [hcl, v8.1]; exact nI_ge (b := S a c) (a := 0) (by omega) (by omega)) (eq_b ea (eq_f o ((m76 (by omega)).trans e1)))))))), e2⟩
theorem m2v {n0 b : Nat} {S : Nat → Nat → Nat} (hn : 1700 ≤ n0) (hb : b ≤ 1) : ∀ (w c : Nat) (M : Mem), c ≤ 5 → 5 < w + c → gI M 34 = nI b → S8 b S M → ltF b S c 0 M → ∃ M' F, loopN (bX12_measures_2 n0) (fun _ _ => none) w (nI c) M = some M' ∧ OnlyA (P9 b) M M' ∧ F9 b F M' ∧ InvF S 5 F := by
  intro w
  induction w with
  | zero => intro c M _ h; omega
  | succ w ih =>
    intro c M hc hw h34 h8 hl
    rw [lpS, bX12_measures_2]
    by_cases g : 5 ≤ c
    · obtain ⟨M', F, e1, e2, e3, e4⟩ := m91v (n0 := n0) (S := S) hn hb n0 0 M (ini S) (by omega) (by omega) h34 (fun i j hi hj => hl i j hi hj (by omega)) (InvF_first (fun i j hi hj => (h8 i j hi hj).2))
      exact ⟨M', F, eq_t (nI_le (a := 5) g (by omega)) e1, e2, e3, e4⟩
    · obtain ⟨M1, d1, d2, d3⟩ := m9v (n0 := n0) (S := S) (k2 := loopN (bX12_measures_2 n0) (fun _ _ => none) w) hb (show c < 5 by omega) n0 0 M (by omega) (by omega) h34 h8 hl
      obtain ⟨M', F, e1, e2, e3, e4⟩ := ih (c + 1) M1 (by omega) (by omega) (by rw [d2.1]; exact h34) (fun i j hi hj => by rw [d2.2.2.2.2 8 _ (by unfold P9; omega)]; exact h8 i j hi hj) d3
      exact ⟨M', F, eq_f (nI_ge (b := 5) (by omega) (by decide)) (d1.trans e1), d2.tr e2, e3, e4⟩
theorem measV {n0 b : Nat} {S : Nat → Nat → Nat} {M : Mem} (hn : 1700 ≤ n0) (hb : b ≤ 1) (h34 : gI M 34 = nI b) (h8 : S8 b S M) : ∃ M' F, fX12_measures n0 M = some M' ∧ OnlyA (P9 b) M M' ∧ F9 b F M' ∧ InvF S 5 F := m2v hn hb n0 0 M (by omega) (by omega) h34 h8 (fun i j _ _ z => by omega)
