/-! SUMS AND TESTS: lists of codes, signs that wait -/
theorem xlist.cong {M M' : Mem} {qf : Nat} {l : List Int32} (h : xlist M qf l) (h1 : gI M' (128 * qf + 1) = gI M (128 * qf + 1)) (h2 : gA M' (qf + 1) = gA M (qf + 1)) : xlist M' qf l := by
  unfold xlist at h ⊢
  rw [h1, h2]
  exact h
theorem xlist.add {n0 qf : Nat} {x : Int32} {l : List Int32} {M : Mem} (h : xlist M qf l) (hl : l.length < 1600) : fX0_add n0 qf x M = some (sI (sA M (qf + 1) l.length x) (128 * qf + 1) (nI (l.length + 1))) ∧ xlist (sI (sA M (qf + 1) l.length x) (128 * qf + 1) (nI (l.length + 1))) qf (l ++ [x]) := by
  obtain ⟨h1, h2⟩ := h
  constructor
  · unfold fX0_add
    refine eq_f (by rw [h1]; exact nI_ge (b := 1600) hl (by decide)) (eq_f (by rw [h1]; exact nI_in hl (by decide)) (eq_n ?_))
    simp only [gI_sA, h1, nI_clamp (show l.length < 2 ^ 31 by omega), nI_1]
  · refine ⟨by rw [gI_at, List.length_append]; rfl, fun i hi => ?_⟩
    show gA (sA M (qf + 1) l.length x) (qf + 1) i = _
    rw [gA_sA, if_pos rfl]
    by_cases e : i = l.length
    · subst e
      rw [if_pos rfl, List.getElem_append_right (Nat.le_refl _)]
      simp
    · have hi2 : i < l.length := by rw [List.length_append] at hi; simp at hi; omega
      rw [if_neg e, List.getElem_append_left hi2]
      exact h2 i hi2
theorem ylist.cong {M M' : Mem} {b c0 : Nat} {l : List (Int32 × Int32)} (h : ylist M b c0 l) (h1 : ∀ i, i < c0 + l.length → gA M' 16 (1600 * b + i) = gA M 16 (1600 * b + i) ∧ gA M' 17 (1600 * b + i) = gA M 17 (1600 * b + i)) : ylist M' b c0 l := fun i hi => by
  rw [(h1 (c0 + i) (by omega)).1, (h1 (c0 + i) (by omega)).2]
  exact h i hi
theorem n1600 (b i : Nat) : (1600 : Int32) * nI b + nI i = nI (1600 * b + i) := by rw [← nI_add, ← nI_mul]; rfl
/-- the memory behind a code that is added -/
def yAdd (M : Mem) (b c : Nat) (x y : Int32) : Mem := sI (sA (sA M 16 (1600 * b + c) x) 17 (1600 * b + c) y) 33 (nI (c + 1))
theorem ylist.add {n0 b c0 : Nat} {x y : Int32} {l : List (Int32 × Int32)} {M : Mem} (h : ylist M b c0 l) (hb : b ≤ 1) (h34 : gI M 34 = nI b) (h33 : gI M 33 = nI (c0 + l.length)) (hl : c0 + l.length < 1600) : fX12_add n0 x y M = some (yAdd M b (c0 + l.length) x y) ∧ ylist (yAdd M b (c0 + l.length) x y) b c0 (l ++ [(x, y)]) ∧ gI (yAdd M b (c0 + l.length) x y) 33 = nI (c0 + (l ++ [(x, y)]).length) := by
  refine ⟨?_, fun i hi => ?_, ?_⟩
  · have e : (1600 : Int32) * gI M 34 + gI M 33 = nI (1600 * b + (c0 + l.length)) := by rw [h34, h33, n1600]
    have o : ¬ oob ((1600 : Int32) * gI M 34 + gI M 33) 3200 := by rw [e]; exact nI_in (by omega) (by decide)
    unfold fX12_add yAdd
    refine eq_f o (eq_n (eq_f o (eq_n ?_)))
    have k : (1600 * gI M 34 + gI M 33).toNatClampNeg = 1600 * b + (c0 + l.length) := by rw [e, nI_clamp (by omega)]
    simp only [gI_sA, k]
    rw [h33, nI_1]
  · show gA (sA (sA M 16 (1600 * b + (c0 + l.length)) x) 17 (1600 * b + (c0 + l.length)) y) 16 _ = _ ∧ gA (sA (sA M 16 (1600 * b + (c0 + l.length)) x) 17 (1600 * b + (c0 + l.length)) y) 17 _ = _
    rw [gA_sA_ne (show (16 : Nat) ≠ 17 by decide), gA_sA, if_pos rfl, gA_sA, if_pos rfl, gA_sA_ne (show (17 : Nat) ≠ 16 by decide)]
    by_cases e : i = l.length
    · subst e
      rw [if_pos rfl, if_pos rfl, List.getElem_append_right (Nat.le_refl _)]
      simp
    · have hi2 : i < l.length := by rw [List.length_append] at hi; simp at hi; omega
      rw [if_neg (by omega), if_neg (by omega), List.getElem_append_left hi2]
      exact h i hi2
  · unfold yAdd
    rw [gI_at, List.length_append]
    rfl
/-- signs that wait above m, the uppermost first -/
def OpsR (M : Mem) (m : Nat) : List Int32 → Prop
  | [] => True
  | op :: R => gA M 26 (m + R.length) = op ∧ OpsR M m R
theorem OpsR.cong {M M' : Mem} {m : Nat} : ∀ {R : List Int32}, OpsR M m R → (∀ i, m ≤ i → i < m + R.length → gA M' 26 i = gA M 26 i) → OpsR M' m R
  | [], _, _ => trivial
  | op :: R, h, hc => ⟨by rw [hc _ (by omega) (by simp)]; exact h.1, OpsR.cong h.2 (fun i h1 h2 => hc i h1 (by simp; omega))⟩
theorem OpsR.push {M : Mem} {m : Nat} {R : List Int32} {op : Int32} (h : OpsR M m R) : OpsR (sA M 26 (m + R.length) op) m (op :: R) := ⟨by rw [gA_sA, if_pos rfl, if_pos rfl], h.cong (fun i h1 h2 => by rw [gA_sA, if_pos rfl, if_neg (by omega)])⟩
theorem OpsR.app {M : Mem} {m : Nat} {R0 : List Int32} (h0 : OpsR M m R0) : ∀ {R : List Int32}, OpsR M (m + R0.length) R → OpsR M m (R ++ R0)
  | [], _ => h0
  | op :: R, h => ⟨by
    show gA M 26 (m + (R ++ R0).length) = op
    rw [List.length_append, show m + (R.length + R0.length) = m + R0.length + R.length by omega]
    exact h.1, OpsR.app h0 h.2⟩
def rkI (x : Int32) : Nat := if x = 42 then 1 else if x = 41 then 2 else if x = 43 then 3 else if x = 38 then 4 else if x = 39 then 4 else if x = 40 then 4 else if x = 31 then 5 else if x = 32 then 5 else 6
theorem rkI_le {x : Int32} : rkI x ≤ 6 := by
  unfold rkI
  repeat' split
  all_goals omega
theorem yrank {n0 : Nat} {x : Int32} {M : Mem} : fX12_rank n0 x M = some (nI (rkI x), M) := by
  unfold fX12_rank rkI
  repeat' split
  all_goals rfl
def nots : List Int32 → Nat
  | [] => 0
  | op :: R => (if op = 43 then 1 else 0) + nots R
theorem nots_app {R0 : List Int32} : ∀ {R : List Int32}, nots (R ++ R0) = nots R + nots R0
  | [] => by simp [nots]
  | op :: R => by
    show _ + nots (R ++ R0) = _ + nots R + nots R0
    rw [nots_app (R := R)]
    omega
theorem nots_0 {R : List Int32} (h : ∀ op ∈ R, 4 ≤ rkI op) : nots R = 0 := by
  induction R with
  | nil => rfl
  | cons op R ih =>
    have h1 := h op List.mem_cons_self
    have : ¬ op = 43 := fun e => by
      rw [e] at h1
      exact absurd h1 (by decide)
    show (if op = 43 then 1 else 0) + nots R = 0
    rw [if_neg this, ih (fun o ho => h o (List.mem_cons_of_mem _ ho))]
def fl (R : List Int32) : List (Int32 × Int32) := R.map (fun op => (op, 0))
/-- what joins() changes -/
def FrJ (b c : Nat) (M M' : Mem) : Prop := (∀ k, k ≠ 33 → k ≠ 42 → k ≠ 44 → gI M' k = gI M k) ∧ (∀ a i, ¬ ((a = 16 ∨ a = 17) ∧ 1600 * b + c ≤ i ∧ i < 1600 * b + 1600) → gA M' a i = gA M a i) ∧ gL M' = gL M ∧ gB M' = gB M
theorem yjoins {n0 b c0 dp m bs op0 least : Nat} (hn : 1601 ≤ n0) (hb : b ≤ 1) (hdp : 1 ≤ dp ∧ dp ≤ 20) (hbs : bs ≤ m) : ∀ (R : List Int32) (w : Nat) (M : Mem) (l : List (Int32 × Int32)), R.length < w → gI M 41 = nI dp → gA M 25 (dp - 1) = nI bs → gI M 44 = nI (m + R.length) → OpsR M m R → (∀ op ∈ R, least ≤ rkI op) → (m = bs ∨ rkI (gA M 26 (m - 1)) < least) → m + R.length ≤ 500 → gI M 34 = nI b → gI M 33 = nI (c0 + l.length) → ylist M b c0 l → c0 + l.length + R.length ≤ 1600 → gI M 42 = nI (op0 + nots R) → op0 + nots R < 2 ^ 31 → least ≤ 6 →
    ∃ M', loopN (bX12_joins_0 n0) (fun _ _ => none) w (nI least) M = some M' ∧ gI M' 44 = nI m ∧ ylist M' b c0 (l ++ fl R) ∧ gI M' 33 = nI (c0 + (l ++ fl R).length) ∧ gI M' 42 = nI op0 ∧ FrJ b (c0 + l.length) M M' := by
  intro R
  induction R with
  | nil =>
    intro w M l hw h41 h25 h44 hO hR hm h500 h34 h33 hy hc h42 hop hle
    obtain ⟨w, rfl⟩ : ∃ v, w = v + 1 := ⟨w - 1, by omega⟩
    refine ⟨M, ?_, h44, by rw [fl]; simpa using hy, by rw [fl]; simpa using h33, h42, ⟨fun _ _ _ _ => rfl, fun _ _ _ => rfl, rfl, rfl⟩⟩
    have h441 : gI M 44 = nI m := h44
    have e41 : gI M 41 - 1 = nI (dp - 1) := by
      rw [h41]
      exact nI_subN (b := 1) hdp.1
    have c41 : (gI M 41 - 1).toNatClampNeg = dp - 1 := by rw [e41, nI_clamp (by omega)]
    rw [lpS, bX12_joins_0]
    refine eq_f (by rw [e41]; exact nI_in (by omega) (by decide)) ?_
    rw [c41, h25, h441]
    by_cases g : m = bs
    · exact eq_t (by rw [g]; exact nI_le (Nat.le_refl _) (by simp at h500; omega)) rfl
    · have hlt : bs < m := by omega
      have e44 : nI m - 1 = nI (m - 1) := nI_subN (b := 1) (by omega)
      have hr : rkI (gA M 26 (m - 1)) < least := by
        rcases hm with q | q
        · exact absurd q g
        · exact q
      simp at h500
      refine eq_f (nI_ge hlt (by omega)) (eq_f (by rw [e44]; exact nI_in (by omega) (by decide)) (eq_b yrank (eq_t ?_ rfl)))
      rw [e44, nI_clamp (by omega)]
      exact nI_lt hr (by omega)
  | cons op R ih =>
    intro w M l hw h41 h25 h44 hO hR hm h500 h34 h33 hy hc h42 hop hle
    obtain ⟨w, rfl⟩ : ∃ v, w = v + 1 := ⟨w - 1, by omega⟩
    simp only [List.length_cons] at h44 h500 hc hw
    have e41 : gI M 41 - 1 = nI (dp - 1) := by
      rw [h41]
      exact nI_subN (b := 1) hdp.1
    have c41 : (gI M 41 - 1).toNatClampNeg = dp - 1 := by rw [e41, nI_clamp (by omega)]
    have e44 : gI M 44 - 1 = nI (m + R.length) := by
      rw [h44]
      exact nI_subN (b := 1) (by omega)
    have c44 : (gI M 44 - 1).toNatClampNeg = m + R.length := by rw [e44, nI_clamp (by omega)]
    have hop1 := hO.1
    have hrk := hR op List.mem_cons_self
    -- one sign
    have a44 : gI (sI M 44 (gI M 44 - 1)) 44 = nI (m + R.length) := by rw [gI_at, e44]
    have k44 : (gI (sI M 44 (gI M 44 - 1)) 44).toNatClampNeg = m + R.length := by rw [a44, nI_clamp (by omega)]
    have hy1 : ylist (sI M 44 (gI M 44 - 1)) b c0 l := hy
    obtain ⟨ea, ya, y33⟩ := hy1.add (n0 := n0) (x := op) (y := 0) hb (by rw [gI_ne (by decide)]; exact h34) (by rw [gI_ne (by decide)]; exact h33) (by omega)
    have hbig : nots (op :: R) = (if op = 43 then 1 else 0) + nots R := rfl
    rw [hbig] at h42 hop
    -- the memory behind it
    have rest : ∀ M2 : Mem, gI M2 42 = nI (op0 + nots R) → (∀ k, k ≠ 42 → gI M2 k = gI (yAdd (sI M 44 (gI M 44 - 1)) b (c0 + l.length) op 0) k) → gA M2 = gA (yAdd (sI M 44 (gI M 44 - 1)) b (c0 + l.length) op 0) → gL M2 = gL M → gB M2 = gB M → ∃ M', loopN (bX12_joins_0 n0) (fun _ _ => none) w (nI least) M2 = some M' ∧ gI M' 44 = nI m ∧ ylist M' b c0 (l ++ fl (op :: R)) ∧ gI M' 33 = nI (c0 + (l ++ fl (op :: R)).length) ∧ gI M' 42 = nI op0 ∧ FrJ b (c0 + l.length) M M' := by
      intro M2 g42 gk gA2 gl gb
      have ar : ∀ a i, a ≠ 16 → a ≠ 17 → gA M2 a i = gA M a i := fun a i h16 h17 => by
        rw [gA2]
        unfold yAdd
        show gA (sA (sA (sI M 44 (gI M 44 - 1)) 16 _ op) 17 _ 0) a i = _
        rw [gA_sA_ne h17, gA_sA_ne h16]
        rfl
      have ik : ∀ k, k ≠ 42 → k ≠ 44 → k ≠ 33 → gI M2 k = gI M k := fun k h1 h2 h3 => by
        rw [gk k h1]
        unfold yAdd
        rw [gI_ne h3]
        show gI (sI M 44 (gI M 44 - 1)) k = _
        rw [gI_ne h2]
      obtain ⟨M', q1, q2, q3, q4, q5, q6⟩ := ih w M2 (l ++ [(op, 0)]) (by omega) (by rw [ik 41 (by decide) (by decide) (by decide)]; exact h41) (by rw [ar _ _ (by decide) (by decide)]; exact h25) (by
          rw [gk 44 (by decide)]
          unfold yAdd
          rw [gI_ne (by decide)]
          exact a44) (hO.2.cong (fun i _ _ => ar _ _ (by decide) (by decide))) (fun o ho => hR o (List.mem_cons_of_mem _ ho)) (by rw [ar _ _ (by decide) (by decide)]; exact hm) (by omega) (by rw [ik 34 (by decide) (by decide) (by decide)]; exact h34) (by rw [gk 33 (by decide)]; exact y33) (by
          unfold ylist
          rw [gA2]
          exact ya) (by simp; omega) g42 (by omega) hle
      refine ⟨M', q1, q2, ?_, ?_, q5, ?_, ?_, q6.2.2.1.trans gl, q6.2.2.2.trans gb⟩
      · have e : l ++ fl (op :: R) = l ++ [(op, 0)] ++ fl R := by simp [fl]
        rw [e]; exact q3
      · have e : l ++ fl (op :: R) = l ++ [(op, 0)] ++ fl R := by simp [fl]
        rw [e]; exact q4
      · intro k h1 h2 h3
        rw [q6.1 k h1 h2 h3]
        exact ik k h2 h3 h1
      · intro a i hh
        rw [q6.2.1 a i (by simp only [List.length_append, List.length_cons, List.length_nil]; omega), gA2]
        unfold yAdd
        show gA (sA (sA (sI M 44 (gI M 44 - 1)) 16 (1600 * b + (c0 + l.length)) op) 17 (1600 * b + (c0 + l.length)) 0) a i = _
        rw [gA_sA]
        by_cases e17 : a = 17
        · rw [if_pos e17, if_neg (by omega), gA_sA_ne (by decide), e17]
          rfl
        · rw [if_neg e17, gA_sA]
          by_cases e16 : a = 16
          · rw [if_pos e16, if_neg (by omega), e16]
            rfl
          · rw [if_neg e16]
            rfl
    have ops2 : gA (yAdd (sI M 44 (gI M 44 - 1)) b (c0 + l.length) op 0) 26 (gI (yAdd (sI M 44 (gI M 44 - 1)) b (c0 + l.length) op 0) 44).toNatClampNeg = op := by
      unfold yAdd
      rw [gI_ne (by decide)]
      show gA (sA (sA (sI M 44 (gI M 44 - 1)) 16 _ op) 17 _ 0) 26 (gI (sI M 44 (gI M 44 - 1)) 44).toNatClampNeg = op
      rw [k44, gA_sA_ne (by decide), gA_sA_ne (by decide)]
      exact hop1
    have z44 : gI (yAdd (sI M 44 (gI M 44 - 1)) b (c0 + l.length) op 0) 44 = nI (m + R.length) := by
      unfold yAdd
      rw [gI_ne (by decide)]
      exact a44
    have ea' : fX12_add n0 (gA (sI M 44 (gI M 44 - 1)) 26 (gI (sI M 44 (gI M 44 - 1)) 44).toNatClampNeg) 0 (sI M 44 (gI M 44 - 1)) = some (yAdd (sI M 44 (gI M 44 - 1)) b (c0 + l.length) op 0) := by
      rw [k44]
      show fX12_add n0 (gA M 26 (m + R.length)) 0 (sI M 44 (gI M 44 - 1)) = _
      rw [hop1]
      exact ea
    have hmem : ∀ r, (if gA (yAdd (sI M 44 (gI M 44 - 1)) b (c0 + l.length) op 0) 26 (gI (yAdd (sI M 44 (gI M 44 - 1)) b (c0 + l.length) op 0) 44).toNatClampNeg = (43 : Int32) then loopN (bX12_joins_0 n0) (fun _ _ => none) w (nI least) (sI (yAdd (sI M 44 (gI M 44 - 1)) b (c0 + l.length) op 0) 42 ((gI (yAdd (sI M 44 (gI M 44 - 1)) b (c0 + l.length) op 0) 42) - (1 : Int32))) else loopN (bX12_joins_0 n0) (fun _ _ => none) w (nI least) (yAdd (sI M 44 (gI M 44 - 1)) b (c0 + l.length) op 0)) = r → loopN (bX12_joins_0 n0) (fun _ _ => none) (w + 1) (nI least) M = r := by
      intro r hr
      rw [lpS, bX12_joins_0]
      refine eq_f (by rw [e41]; exact nI_in (by omega) (by decide)) (eq_f ?_ (eq_f (by rw [e44]; exact nI_in (by omega) (by decide)) (eq_b yrank (eq_f ?_ (eq_n (eq_f (by rw [a44]; exact nI_in (by omega) (by decide)) (eq_b ea' (eq_f (by rw [z44]; exact nI_in (by omega) (by decide)) hr))))))))
      · rw [c41, h25, h44]
        exact nI_ge (by omega) (by omega)
      · rw [c44, hop1]
        exact nI_nlt hrk (by have := rkI_le (x := op); omega)
    have y42 : gI (yAdd (sI M 44 (gI M 44 - 1)) b (c0 + l.length) op 0) 42 = gI M 42 := by
      unfold yAdd
      rw [gI_ne (by decide)]
      show gI (sI M 44 (gI M 44 - 1)) 42 = _
      rw [gI_ne (by decide)]
    by_cases e43 : op = 43
    · rw [if_pos e43] at h42 hop
      obtain ⟨M', q⟩ := rest (sI (yAdd (sI M 44 (gI M 44 - 1)) b (c0 + l.length) op 0) 42 ((gI (yAdd (sI M 44 (gI M 44 - 1)) b (c0 + l.length) op 0) 42) - (1 : Int32))) (by
        rw [gI_at, y42, h42, show (1 : Int32) = nI 1 from rfl, nI_subN (by omega)]
        congr 1
        omega) (fun k hk => gI_ne hk) rfl rfl rfl
      refine ⟨M', hmem _ ?_, q.2⟩
      exact eq_t (by rw [ops2]; exact e43) q.1
    · rw [if_neg e43] at h42 hop
      obtain ⟨M', q⟩ := rest (yAdd (sI M 44 (gI M 44 - 1)) b (c0 + l.length) op 0) (by rw [y42, h42]; congr 1; omega) (fun k _ => rfl) rfl rfl rfl
      refine ⟨M', hmem _ ?_, q.2⟩
      exact eq_f (by rw [ops2]; exact e43) q.1
