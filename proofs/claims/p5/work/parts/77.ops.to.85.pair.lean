section
/-! SUMS AND TESTS: lists of codes, signs that wait -/
theorem xlist.cong {M M' : Mem} {qf : Nat} {l : List Int32} (h : xlist M qf l) (h1 : gI M' (128 * qf + 1) = gI M (128 * qf + 1)) (h2 : gA M' (qf + 1) = gA M (qf + 1)) : xlist M' qf l := by
  unfold xlist at h ⊢
  rw [h1, h2]
  exact h
theorem xlist.add {n0 qf : Nat} {x : Int32} {l : List Int32} {M : Mem} (h : xlist M qf l) (hl : l.length < 1600) : fX0_add n0 qf x M = some (sI (sA M (qf + 1) l.length x) (128 * qf + 1) (nI (l.length + 1))) ∧ xlist (sI (sA M (qf + 1) l.length x) (128 * qf + 1) (nI (l.length + 1))) qf (l ++ [x]) := by
  obtain ⟨h1, h2⟩ := h
  constructor
  · unfold fX0_add
    refine eq_f (by rw [h1]; exact nI_ge (b := 1600) hl (by decide)) (eq_f (by rw [h1]; exact nI_in hl (by decide)) (eq_n ?_))
    simp only [gI_sA, h1, nI_clamp (show l.length < 2 ^ 31 by omega), nI_1]
  · refine ⟨by rw [gI_at, List.length_append]; rfl, fun i hi => ?_⟩
    show gA (sA M (qf + 1) l.length x) (qf + 1) i = _
    rw [gA_sA, if_pos rfl]
    by_cases e : i = l.length
    · subst e
      rw [if_pos rfl, List.getElem_append_right (Nat.le_refl _)]
      simp
    · have hi2 : i < l.length := by rw [List.length_append] at hi; simp at hi; omega
      rw [if_neg e, List.getElem_append_left hi2]
      exact h2 i hi2
theorem ylist.cong {M M' : Mem} {b c0 : Nat} {l : List (Int32 × Int32)} (h : ylist M b c0 l) (h1 : ∀ i, i < c0 + l.length → gA M' 16 (1600 * b + i) = gA M 16 (1600 * b + i) ∧ gA M' 17 (1600 * b + i) = gA M 17 (1600 * b + i)) : ylist M' b c0 l := fun i hi => by
  rw [(h1 (c0 + i) (by omega)).1, (h1 (c0 + i) (by omega)).2]
  exact h i hi
theorem n1600 (b i : Nat) : (1600 : Int32) * nI b + nI i = nI (1600 * b + i) := by rw [← nI_add, ← nI_mul]; rfl
/-- the memory behind a code that is added -/
def yAdd (M : Mem) (b c : Nat) (x y : Int32) : Mem := sI (sA (sA M 16 (1600 * b + c) x) 17 (1600 * b + c) y) 33 (nI (c + 1))
theorem ylist.add {n0 b c0 : Nat} {x y : Int32} {l : List (Int32 × Int32)} {M : Mem} (h : ylist M b c0 l) (hb : b ≤ 1) (h34 : gI M 34 = nI b) (h33 : gI M 33 = nI (c0 + l.length)) (hl : c0 + l.length < 1600) : fX12_add n0 x y M = some (yAdd M b (c0 + l.length) x y) ∧ ylist (yAdd M b (c0 + l.length) x y) b c0 (l ++ [(x, y)]) ∧ gI (yAdd M b (c0 + l.length) x y) 33 = nI (c0 + (l ++ [(x, y)]).length) := by
  refine ⟨?_, fun i hi => ?_, ?_⟩
  · have e : (1600 : Int32) * gI M 34 + gI M 33 = nI (1600 * b + (c0 + l.length)) := by rw [h34, h33, n1600]
    have o : ¬ oob ((1600 : Int32) * gI M 34 + gI M 33) 3200 := by rw [e]; exact nI_in (by omega) (by decide)
    unfold fX12_add yAdd
    refine eq_f o (eq_n (eq_f o (eq_n ?_)))
    have k : (1600 * gI M 34 + gI M 33).toNatClampNeg = 1600 * b + (c0 + l.length) := by rw [e, nI_clamp (by omega)]
    simp only [gI_sA, k]
    rw [h33, nI_1]
  · show gA (sA (sA M 16 (1600 * b + (c0 + l.length)) x) 17 (1600 * b + (c0 + l.length)) y) 16 _ = _ ∧ gA (sA (sA M 16 (1600 * b + (c0 + l.length)) x) 17 (1600 * b + (c0 + l.length)) y) 17 _ = _
    rw [gA_sA_ne (show (16 : Nat) ≠ 17 by decide), gA_sA, if_pos rfl, gA_sA, if_pos rfl, gA_sA_ne (show (17 : Nat) ≠ 16 by decide)]
    by_cases e : i = l.length
    · subst e
      rw [if_pos rfl, if_pos rfl, List.getElem_append_right (Nat.le_refl _)]
      simp
    · have hi2 : i < l.length := by rw [List.length_append] at hi; simp at hi; omega
      rw [if_neg (by omega), if_neg (by omega), List.getElem_append_left hi2]
      exact h i hi2
  · unfold yAdd
    rw [gI_at, List.length_append]
    rfl
/-- signs that wait above m, the uppermost first -/
def OpsR (M : Mem) (m : Nat) : List Int32 → Prop
  | [] => True
  | op :: R => gA M 26 (m + R.length) = op ∧ OpsR M m R
theorem OpsR.cong {M M' : Mem} {m : Nat} : ∀ {R : List Int32}, OpsR M m R → (∀ i, m ≤ i → i < m + R.length → gA M' 26 i = gA M 26 i) → OpsR M' m R
  | [], _, _ => trivial
  | op :: R, h, hc => ⟨by rw [hc _ (by omega) (by simp)]; exact h.1, OpsR.cong h.2 (fun i h1 h2 => hc i h1 (by simp; omega))⟩
theorem OpsR.push {M : Mem} {m : Nat} {R : List Int32} {op : Int32} (h : OpsR M m R) : OpsR (sA M 26 (m + R.length) op) m (op :: R) := ⟨by rw [gA_sA, if_pos rfl, if_pos rfl], h.cong (fun i h1 h2 => by rw [gA_sA, if_pos rfl, if_neg (by omega)])⟩
theorem OpsR.app {M : Mem} {m : Nat} {R0 : List Int32} (h0 : OpsR M m R0) : ∀ {R : List Int32}, OpsR M (m + R0.length) R → OpsR M m (R ++ R0)
  | [], _ => h0
  | op :: R, h => ⟨by
    show gA M 26 (m + (R ++ R0).length) = op
    rw [List.length_append, show m + (R.length + R0.length) = m + R0.length + R.length by omega]
    exact h.1, OpsR.app h0 h.2⟩
def rkI (x : Int32) : Nat := if x = 42 then 1 else if x = 41 then 2 else if x = 43 then 3 else if x = 38 then 4 else if x = 39 then 4 else if x = 40 then 4 else if x = 31 then 5 else if x = 32 then 5 else 6
theorem rkI_le {x : Int32} : rkI x ≤ 6 := by
  unfold rkI
  repeat' split
  all_goals omega
theorem yrank {n0 : Nat} {x : Int32} {M : Mem} : fX12_rank n0 x M = some (nI (rkI x), M) := by
  unfold fX12_rank rkI
  repeat' split
  all_goals rfl
def nots : List Int32 → Nat
  | [] => 0
  | op :: R => (if op = 43 then 1 else 0) + nots R
theorem nots_app {R0 : List Int32} : ∀ {R : List Int32}, nots (R ++ R0) = nots R + nots R0
  | [] => by simp [nots]
  | op :: R => by
    show _ + nots (R ++ R0) = _ + nots R + nots R0
    rw [nots_app (R := R)]
    omega
theorem nots_0 {R : List Int32} (h : ∀ op ∈ R, 4 ≤ rkI op) : nots R = 0 := by
  induction R with
  | nil => rfl
  | cons op R ih =>
    have h1 := h op List.mem_cons_self
    have : ¬ op = 43 := fun e => by
      rw [e] at h1
      exact absurd h1 (by decide)
    show (if op = 43 then 1 else 0) + nots R = 0
    rw [if_neg this, ih (fun o ho => h o (List.mem_cons_of_mem _ ho))]
def fl (R : List Int32) : List (Int32 × Int32) := R.map (fun op => (op, 0))
/-- what joins() changes -/
def FrJ (b c : Nat) (M M' : Mem) : Prop := (∀ k, k ≠ 33 → k ≠ 42 → k ≠ 44 → gI M' k = gI M k) ∧ (∀ a i, ¬ ((a = 16 ∨ a = 17) ∧ 1600 * b + c ≤ i ∧ i < 1600 * b + 1600) → gA M' a i = gA M a i) ∧ gL M' = gL M ∧ gB M' = gB M
theorem yjoins {n0 b c0 dp m bs op0 least : Nat} (hn : 1601 ≤ n0) (hb : b ≤ 1) (hdp : 1 ≤ dp ∧ dp ≤ 20) (hbs : bs ≤ m) : ∀ (R : List Int32) (w : Nat) (M : Mem) (l : List (Int32 × Int32)), R.length < w → gI M 41 = nI dp → gA M 25 (dp - 1) = nI bs → gI M 44 = nI (m + R.length) → OpsR M m R → (∀ op ∈ R, least ≤ rkI op) → (m = bs ∨ rkI (gA M 26 (m - 1)) < least) → m + R.length ≤ 500 → gI M 34 = nI b → gI M 33 = nI (c0 + l.length) → ylist M b c0 l → c0 + l.length + R.length ≤ 1600 → gI M 42 = nI (op0 + nots R) → op0 + nots R < 2 ^ 31 → least ≤ 6 →
    ∃ M', loopN (bX12_joins_0 n0) (fun _ _ => none) w (nI least) M = some M' ∧ gI M' 44 = nI m ∧ ylist M' b c0 (l ++ fl R) ∧ gI M' 33 = nI (c0 + (l ++ fl R).length) ∧ gI M' 42 = nI op0 ∧ FrJ b (c0 + l.length) M M' := by
  intro R
  induction R with
  | nil =>
    intro w M l hw h41 h25 h44 hO hR hm h500 h34 h33 hy hc h42 hop hle
    obtain ⟨w, rfl⟩ : ∃ v, w = v + 1 := ⟨w - 1, by omega⟩
    refine ⟨M, ?_, h44, by rw [fl]; simpa using hy, by rw [fl]; simpa using h33, h42, ⟨fun _ _ _ _ => rfl, fun _ _ _ => rfl, rfl, rfl⟩⟩
    have h441 : gI M 44 = nI m := h44
    have e41 : gI M 41 - 1 = nI (dp - 1) := by
      rw [h41]
      exact nI_subN (b := 1) hdp.1
    have c41 : (gI M 41 - 1).toNatClampNeg = dp - 1 := by rw [e41, nI_clamp (by omega)]
    rw [lpS, bX12_joins_0]
    refine eq_f (by rw [e41]; exact nI_in (by omega) (by decide)) ?_
    rw [c41, h25, h441]
    by_cases g : m = bs
    · exact eq_t (by rw [g]; exact nI_le (Nat.le_refl _) (by simp at h500; omega)) rfl
    · have hlt : bs < m := by omega
      have e44 : nI m - 1 = nI (m - 1) := nI_subN (b := 1) (by omega)
      have hr : rkI (gA M 26 (m - 1)) < least := by
        rcases hm with q | q
        · exact absurd q g
        · exact q
      simp at h500
      refine eq_f (nI_ge hlt (by omega)) (eq_f (by rw [e44]; exact nI_in (by omega) (by decide)) (eq_b yrank (eq_t ?_ rfl)))
      rw [e44, nI_clamp (by omega)]
      exact nI_lt hr (by omega)
  | cons op R ih =>
    intro w M l hw h41 h25 h44 hO hR hm h500 h34 h33 hy hc h42 hop hle
    obtain ⟨w, rfl⟩ : ∃ v, w = v + 1 := ⟨w - 1, by omega⟩
    simp only [List.length_cons] at h44 h500 hc hw
    have e41 : gI M 41 - 1 = nI (dp - 1) := by
      rw [h41]
      exact nI_subN (b := 1) hdp.1
    have c41 : (gI M 41 - 1).toNatClampNeg = dp - 1 := by rw [e41, nI_clamp (by omega)]
    have e44 : gI M 44 - 1 = nI (m + R.length) := by
      rw [h44]
      exact nI_subN (b := 1) (by omega)
    have c44 : (gI M 44 - 1).toNatClampNeg = m + R.length := by rw [e44, nI_clamp (by omega)]
    have hop1 := hO.1
    have hrk := hR op List.mem_cons_self
    -- one sign
    have a44 : gI (sI M 44 (gI M 44 - 1)) 44 = nI (m + R.length) := by rw [gI_at, e44]
    have k44 : (gI (sI M 44 (gI M 44 - 1)) 44).toNatClampNeg = m + R.length := by rw [a44, nI_clamp (by omega)]
    have hy1 : ylist (sI M 44 (gI M 44 - 1)) b c0 l := hy
    obtain ⟨ea, ya, y33⟩ := hy1.add (n0 := n0) (x := op) (y := 0) hb (by rw [gI_ne (by decide)]; exact h34) (by rw [gI_ne (by decide)]; exact h33) (by omega)
    have hbig : nots (op :: R) = (if op = 43 then 1 else 0) + nots R := rfl
    rw [hbig] at h42 hop
    -- the memory behind it
    have rest : ∀ M2 : Mem, gI M2 42 = nI (op0 + nots R) → (∀ k, k ≠ 42 → gI M2 k = gI (yAdd (sI M 44 (gI M 44 - 1)) b (c0 + l.length) op 0) k) → gA M2 = gA (yAdd (sI M 44 (gI M 44 - 1)) b (c0 + l.length) op 0) → gL M2 = gL M → gB M2 = gB M → ∃ M', loopN (bX12_joins_0 n0) (fun _ _ => none) w (nI least) M2 = some M' ∧ gI M' 44 = nI m ∧ ylist M' b c0 (l ++ fl (op :: R)) ∧ gI M' 33 = nI (c0 + (l ++ fl (op :: R)).length) ∧ gI M' 42 = nI op0 ∧ FrJ b (c0 + l.length) M M' := by
      intro M2 g42 gk gA2 gl gb
      have ar : ∀ a i, a ≠ 16 → a ≠ 17 → gA M2 a i = gA M a i := fun a i h16 h17 => by
        rw [gA2]
        unfold yAdd
        show gA (sA (sA (sI M 44 (gI M 44 - 1)) 16 _ op) 17 _ 0) a i = _
        rw [gA_sA_ne h17, gA_sA_ne h16]
        rfl
      have ik : ∀ k, k ≠ 42 → k ≠ 44 → k ≠ 33 → gI M2 k = gI M k := fun k h1 h2 h3 => by
        rw [gk k h1]
        unfold yAdd
        rw [gI_ne h3]
        show gI (sI M 44 (gI M 44 - 1)) k = _
        rw [gI_ne h2]
      obtain ⟨M', q1, q2, q3, q4, q5, q6⟩ := ih w M2 (l ++ [(op, 0)]) (by omega) (by rw [ik 41 (by decide) (by decide) (by decide)]; exact h41) (by rw [ar _ _ (by decide) (by decide)]; exact h25) (by
          rw [gk 44 (by decide)]
          unfold yAdd
          rw [gI_ne (by decide)]
          exact a44) (hO.2.cong (fun i _ _ => ar _ _ (by decide) (by decide))) (fun o ho => hR o (List.mem_cons_of_mem _ ho)) (by rw [ar _ _ (by decide) (by decide)]; exact hm) (by omega) (by rw [ik 34 (by decide) (by decide) (by decide)]; exact h34) (by rw [gk 33 (by decide)]; exact y33) (by
          unfold ylist
          rw [gA2]
          exact ya) (by simp; omega) g42 (by omega) hle
      refine ⟨M', q1, q2, ?_, ?_, q5, ?_, ?_, q6.2.2.1.trans gl, q6.2.2.2.trans gb⟩
      · have e : l ++ fl (op :: R) = l ++ [(op, 0)] ++ fl R := by simp [fl]
        rw [e]; exact q3
      · have e : l ++ fl (op :: R) = l ++ [(op, 0)] ++ fl R := by simp [fl]
        rw [e]; exact q4
      · intro k h1 h2 h3
        rw [q6.1 k h1 h2 h3]
        exact ik k h2 h3 h1
      · intro a i hh
        rw [q6.2.1 a i (by simp only [List.length_append, List.length_cons, List.length_nil]; omega), gA2]
        unfold yAdd
        show gA (sA (sA (sI M 44 (gI M 44 - 1)) 16 (1600 * b + (c0 + l.length)) op) 17 (1600 * b + (c0 + l.length)) 0) a i = _
        rw [gA_sA]
        by_cases e17 : a = 17
        · rw [if_pos e17, if_neg (by omega), gA_sA_ne (by decide), e17]
          rfl
        · rw [if_neg e17, gA_sA]
          by_cases e16 : a = 16
          · rw [if_pos e16, if_neg (by omega), e16]
            rfl
          · rw [if_neg e16]
            rfl
    have ops2 : gA (yAdd (sI M 44 (gI M 44 - 1)) b (c0 + l.length) op 0) 26 (gI (yAdd (sI M 44 (gI M 44 - 1)) b (c0 + l.length) op 0) 44).toNatClampNeg = op := by
      unfold yAdd
      rw [gI_ne (by decide)]
      show gA (sA (sA (sI M 44 (gI M 44 - 1)) 16 _ op) 17 _ 0) 26 (gI (sI M 44 (gI M 44 - 1)) 44).toNatClampNeg = op
      rw [k44, gA_sA_ne (by decide), gA_sA_ne (by decide)]
      exact hop1
    have z44 : gI (yAdd (sI M 44 (gI M 44 - 1)) b (c0 + l.length) op 0) 44 = nI (m + R.length) := by
      unfold yAdd
      rw [gI_ne (by decide)]
      exact a44
    have ea' : fX12_add n0 (gA (sI M 44 (gI M 44 - 1)) 26 (gI (sI M 44 (gI M 44 - 1)) 44).toNatClampNeg) 0 (sI M 44 (gI M 44 - 1)) = some (yAdd (sI M 44 (gI M 44 - 1)) b (c0 + l.length) op 0) := by
      rw [k44]
      show fX12_add n0 (gA M 26 (m + R.length)) 0 (sI M 44 (gI M 44 - 1)) = _
      rw [hop1]
      exact ea
    have hmem : ∀ r, (if gA (yAdd (sI M 44 (gI M 44 - 1)) b (c0 + l.length) op 0) 26 (gI (yAdd (sI M 44 (gI M 44 - 1)) b (c0 + l.length) op 0) 44).toNatClampNeg = (43 : Int32) then loopN (bX12_joins_0 n0) (fun _ _ => none) w (nI least) (sI (yAdd (sI M 44 (gI M 44 - 1)) b (c0 + l.length) op 0) 42 ((gI (yAdd (sI M 44 (gI M 44 - 1)) b (c0 + l.length) op 0) 42) - (1 : Int32))) else loopN (bX12_joins_0 n0) (fun _ _ => none) w (nI least) (yAdd (sI M 44 (gI M 44 - 1)) b (c0 + l.length) op 0)) = r → loopN (bX12_joins_0 n0) (fun _ _ => none) (w + 1) (nI least) M = r := by
      intro r hr
      rw [lpS, bX12_joins_0]
      refine eq_f (by rw [e41]; exact nI_in (by omega) (by decide)) (eq_f ?_ (eq_f (by rw [e44]; exact nI_in (by omega) (by decide)) (eq_b yrank (eq_f ?_ (eq_n (eq_f (by rw [a44]; exact nI_in (by omega) (by decide)) (eq_b ea' (eq_f (by rw [z44]; exact nI_in (by omega) (by decide)) hr))))))))
      · rw [c41, h25, h44]
        exact nI_ge (by omega) (by omega)
      · rw [c44, hop1]
        exact nI_nlt hrk (by have := rkI_le (x := op); omega)
    have y42 : gI (yAdd (sI M 44 (gI M 44 - 1)) b (c0 + l.length) op 0) 42 = gI M 42 := by
      unfold yAdd
      rw [gI_ne (by decide)]
      show gI (sI M 44 (gI M 44 - 1)) 42 = _
      rw [gI_ne (by decide)]
    by_cases e43 : op = 43
    · rw [if_pos e43] at h42 hop
      obtain ⟨M', q⟩ := rest (sI (yAdd (sI M 44 (gI M 44 - 1)) b (c0 + l.length) op 0) 42 ((gI (yAdd (sI M 44 (gI M 44 - 1)) b (c0 + l.length) op 0) 42) - (1 : Int32))) (by
        rw [gI_at, y42, h42, show (1 : Int32) = nI 1 from rfl, nI_subN (by omega)]
        congr 1
        omega) (fun k hk => gI_ne hk) rfl rfl rfl
      refine ⟨M', hmem _ ?_, q.2⟩
      exact eq_t (by rw [ops2]; exact e43) q.1
    · rw [if_neg e43] at h42 hop
      obtain ⟨M', q⟩ := rest (yAdd (sI M 44 (gI M 44 - 1)) b (c0 + l.length) op 0) (by rw [y42, h42]; congr 1; omega) (fun k _ => rfl) rfl rfl rfl
      refine ⟨M', hmem _ ?_, q.2⟩
      exact eq_f (by rw [ops2]; exact e43) q.1
end
section
/-! SUMS AND TESTS: the state of the reference's reader, its steps -/
def YP (b c0 dp m bs op : Nat) (R : List Int32) (ly : List (Int32 × Int32)) (M : Mem) : Prop :=
  gI M 34 = nI b ∧ b ≤ 1 ∧ gI M 41 = nI dp ∧ (1 ≤ dp ∧ dp ≤ 9) ∧ gA M 25 (dp - 1) = nI bs ∧ bs ≤ m ∧ gI M 44 = nI (m + R.length) ∧ OpsR M m R ∧ m + R.length ≤ 400 ∧ gI M 33 = nI (c0 + ly.length) ∧ ylist M b c0 ly ∧ gI M 42 = nI (op + nots R) ∧ op + nots R ≤ 7
theorem YP.cong {b c0 dp m bs op : Nat} {R : List Int32} {ly : List (Int32 × Int32)} {M M' : Mem} (h : YP b c0 dp m bs op R ly M) (hi : ∀ k, k = 33 ∨ k = 34 ∨ k = 41 ∨ k = 42 ∨ k = 44 → gI M' k = gI M k) (ha : ∀ a, a = 16 ∨ a = 17 ∨ a = 25 ∨ a = 26 → gA M' a = gA M a) : YP b c0 dp m bs op R ly M' := by
  obtain ⟨h1, h2, h3, h4, h5, h6, h7, h8, h9, h10, h11, h12, h13⟩ := h
  refine ⟨?_, h2, ?_, h4, ?_, h6, ?_, ?_, h9, ?_, ?_, ?_, h13⟩
  · rw [hi 34 (by omega)]; exact h1
  · rw [hi 41 (by omega)]; exact h3
  · rw [ha 25 (by omega)]; exact h5
  · rw [hi 44 (by omega)]; exact h7
  · exact h8.cong (fun i _ _ => by rw [ha 26 (by omega)])
  · rw [hi 33 (by omega)]; exact h10
  · exact h11.cong (fun i _ => by rw [ha 16 (by omega), ha 17 (by omega)]; exact ⟨rfl, rfl⟩)
  · rw [hi 42 (by omega)]; exact h12
theorem YP.tok {b c0 dp m bs op : Nat} {R : List Int32} {ly : List (Int32 × Int32)} {M M' : Mem} (h : YP b c0 dp m bs op R ly M) (hf : FrY M M') : YP b c0 dp m bs op R ly M' := h.cong (fun k hk => hf.1 k (by omega)) (fun a _ => hf.2.1 a id)
theorem YP.up {b c0 dp m bs op : Nat} {R : List Int32} {ly : List (Int32 × Int32)} {M : Mem} (h : YP b c0 dp m bs op R ly M) : YP b c0 dp (m + R.length) bs (op + nots R) [] ly M := by
  obtain ⟨h1, h2, h3, h4, h5, h6, h7, h8, h9, h10, h11, h12, h13⟩ := h
  exact ⟨h1, h2, h3, h4, h5, by omega, h7, trivial, h9, h10, h11, h12, h13⟩
theorem YP.down {b c0 dp m bs op : Nat} {R0 R : List Int32} {ly : List (Int32 × Int32)} {M : Mem} (h : YP b c0 dp (m + R0.length) bs (op + nots R0) R ly M) (h0 : OpsR M m R0) (hm : bs ≤ m) : YP b c0 dp m bs op (R ++ R0) ly M := by
  obtain ⟨h1, h2, h3, h4, h5, h6, h7, h8, h9, h10, h11, h12, h13⟩ := h
  refine ⟨h1, h2, h3, h4, h5, hm, ?_, h0.app h8, ?_, h10, h11, ?_, ?_⟩
  · rw [h7, List.length_append]; congr 1; omega
  · rw [List.length_append]; omega
  · rw [h12, nots_app]; congr 1; omega
  · rw [nots_app]; omega
/-- what may change while a phrase is read: codes from c on, frames from dp on (of the last one phase and begins), signs from m on -/
def pReg (b c dp m a i : Nat) : Prop := ((a = 16 ∨ a = 17) ∧ 1600 * b + c ≤ i ∧ i < 1600 * b + 1600) ∨ ((a = 21 ∨ a = 24 ∨ a = 25) ∧ dp ≤ i) ∨ ((a = 22 ∨ a = 23) ∧ dp ≤ i + 1) ∨ (a = 26 ∧ m ≤ i)
def pInt (k : Nat) : Prop := (3 ≤ k ∧ k ≤ 9) ∨ k = 12 ∨ k = 33 ∨ k = 41 ∨ k = 42 ∨ k = 44 ∨ k = 45
def FP (b c dp m : Nat) (M M' : Mem) : Prop := (∀ k, ¬ pInt k → gI M' k = gI M k) ∧ (∀ a i, ¬ pReg b c dp m a i → gA M' a i = gA M a i) ∧ (∀ k, k ≠ 7 → gL M' k = gL M k) ∧ ∀ a i, gB M' a i = gB M a i
theorem FP.r {b c dp m : Nat} {M : Mem} : FP b c dp m M M := ⟨fun _ _ => rfl, fun _ _ _ => rfl, fun _ _ => rfl, fun _ _ => rfl⟩
theorem FP.tr {b c dp m : Nat} {M M' M2 : Mem} (h : FP b c dp m M M') (g : FP b c dp m M' M2) : FP b c dp m M M2 := ⟨fun k q => (g.1 k q).trans (h.1 k q), fun a i q => (g.2.1 a i q).trans (h.2.1 a i q), fun k q => (g.2.2.1 k q).trans (h.2.2.1 k q), fun a i => (g.2.2.2 a i).trans (h.2.2.2 a i)⟩
theorem FP.wk {b c dp m c' dp' m' : Nat} {M M' : Mem} (h : FP b c dp m M M') (h1 : c' ≤ c) (h2 : dp' ≤ dp) (h3 : m' ≤ m) : FP b c' dp' m' M M' := ⟨h.1, fun a i q => h.2.1 a i (fun g => q (by
  rcases g with ⟨g1, g2, g3⟩ | ⟨g1, g2⟩ | ⟨g1, g2⟩ | ⟨g1, g2⟩
  · exact Or.inl ⟨g1, by omega, g3⟩
  · exact Or.inr (Or.inl ⟨g1, by omega⟩)
  · exact Or.inr (Or.inr (Or.inl ⟨g1, by omega⟩))
  · exact Or.inr (Or.inr (Or.inr ⟨g1, by omega⟩)))), h.2.2⟩
theorem FP.i {b c dp m k : Nat} {v : Int32} {M M' : Mem} (h : FP b c dp m M M') (hk : pInt k) : FP b c dp m M (sI M' k v) := ⟨fun j q => by rw [gI_ne (fun e => q (by rw [e]; exact hk))]; exact h.1 j q, h.2⟩
theorem FP.a {b c dp m a i : Nat} {v : Int32} {M M' : Mem} (h : FP b c dp m M M') (hk : pReg b c dp m a i) : FP b c dp m M (sA M' a i v) := ⟨h.1, fun e j q => by
  rw [gA_sA]
  by_cases g : e = a
  · subst g
    rw [if_pos rfl, if_neg (fun e => q (by rw [e]; exact hk))]
    exact h.2.1 _ _ q
  · rw [if_neg g]
    exact h.2.1 _ _ q, h.2.2⟩
theorem FrY.p {b c dp m : Nat} {M M' : Mem} (h : FrY M M') : FP b c dp m M M' := ⟨fun k q => h.1 k (fun g => q (by unfold pInt; omega)), fun a i _ => by rw [h.2.1 a id], fun k q => h.2.2.2.1 k q, fun a i => by rw [h.2.2.2.2 a id]⟩
theorem FrJ.p {b c dp m : Nat} {M M' : Mem} (h : FrJ b c M M') : FP b c dp m M M' := ⟨fun k q => h.1 k (fun g => q (by unfold pInt; omega)) (fun g => q (by unfold pInt; omega)) (fun g => q (by unfold pInt; omega)), fun a i q => h.2.1 a i (fun g => q (by unfold pReg; omega)), fun k _ => by rw [h.2.2.1], fun a i => by rw [h.2.2.2]⟩
theorem FP.Y2 {b c dp m : Nat} {M M' : Mem} (h : FP b c dp m M M') : FY2 b M M' := ⟨fun k q => h.1 k (fun g => q (by unfold pInt at g; unfold regI; omega)), fun a i q => h.2.1 a i (fun g => q (by
  rcases g with ⟨g1, g2, g3⟩ | ⟨g1, g2⟩ | ⟨g1, g2⟩ | ⟨g1, g2⟩
  · exact Or.inr (Or.inr (Or.inr (Or.inr (Or.inr (Or.inl ⟨g1, by omega, g3⟩)))))
  · exact Or.inr (Or.inr (Or.inr (Or.inr (Or.inr (Or.inr ⟨by omega, by omega⟩)))))
  · exact Or.inr (Or.inr (Or.inr (Or.inr (Or.inr (Or.inr ⟨by omega, by omega⟩)))))
  · exact Or.inr (Or.inr (Or.inr (Or.inr (Or.inr (Or.inr ⟨by omega, by omega⟩))))))), h.2.2.1, fun a i _ => h.2.2.2 a i⟩
/-- what the class may change while it reads a phrase into the formula at qf -/
def FPx (qf : Nat) (M M' : Mem) : Prop := (∀ k, ¬ ((386 ≤ k ∧ k ≤ 392) ∨ k = 128 * qf + 1) → gI M' k = gI M k) ∧ (∀ a, a ≠ qf + 1 → gA M' a = gA M a) ∧ gR M' = gR M
theorem FPx.r {qf : Nat} {M : Mem} : FPx qf M M := ⟨fun _ _ => rfl, fun _ _ => rfl, rfl⟩
theorem FPx.tr {qf : Nat} {M M' M2 : Mem} (h : FPx qf M M') (g : FPx qf M' M2) : FPx qf M M2 := ⟨fun k q => (g.1 k q).trans (h.1 k q), fun a q => (g.2.1 a q).trans (h.2.1 a q), g.2.2.trans h.2.2⟩
theorem FI.p {qf : Nat} {M M' : Mem} (h : FI 386 392 M M') : FPx qf M M' := ⟨fun k q => h.2 k (by omega), fun a _ => by rw [h.A], h.R⟩
-- the loop
def YLp (n0 w : Nat) (M : Mem) : Option Mem := loopN (bX12_reads_43 n0) (fun _ _ => none) w 1 M
theorem yl0 {n0 w : Nat} {M : Mem} : loopN (bX12_reads_43 n0) (fun _ _ => none) (w + 1) 0 M = some M := by
  rw [lpS, bX12_reads_43]
  exact eq_t rfl rfl
theorem ylop {n0 w : Nat} {r : Int32} {M M' : Mem} (h45 : gI M 45 = 0) (hr : r = 0 ∨ r = 1) (h : fX12_operand n0 M = some (r, M')) (h8 : gI M' 8 = 0) : YLp n0 (w + 1) M = YLp n0 w (sI M' 45 r) := by
  unfold YLp
  rw [lpS, bX12_reads_43]
  unfold fX12_reads_70 fX12_reads_86
  exact eq_f i10 (eq_t h45 (eq_b h (eq_t hr (eq_f i10 (eq_t (by rw [gI_ne (by decide)]; exact h8) rfl)))))
theorem ylopF {n0 w : Nat} {r : Int32} {M M' : Mem} (h45 : gI M 45 = 0) (hr : r = 0 ∨ r = 1) (h : fX12_operand n0 M = some (r, M')) (h8 : ¬ gI M' 8 = 0) : YLp n0 (w + 2) M = some (sI M' 45 r) := by
  unfold YLp
  rw [lpS, bX12_reads_43]
  unfold fX12_reads_70 fX12_reads_85 fX12_reads_86
  exact eq_f i10 (eq_t h45 (eq_b h (eq_t hr (eq_f i10 (eq_f (by rw [gI_ne (by decide)]; exact h8) yl0)))))
theorem ylgo {n0 w : Nat} {M M' : Mem} (h45 : ¬ gI M 45 = 0) (h : fX12_goesOn n0 M = some (1, M')) (h8 : gI M' 8 = 0) : YLp n0 (w + 1) M = YLp n0 w M' := by
  unfold YLp
  rw [lpS, bX12_reads_43]
  unfold fX12_reads_70 fX12_reads_86
  exact eq_f i10 (eq_f h45 (eq_b h (eq_f i10 (eq_t h8 rfl))))
theorem ylgo0 {n0 w : Nat} {M M' : Mem} (h45 : ¬ gI M 45 = 0) (h : fX12_goesOn n0 M = some (0, M')) : YLp n0 (w + 2) M = some M' := by
  unfold YLp
  rw [lpS, bX12_reads_43]
  unfold fX12_reads_70 fX12_reads_85 fX12_reads_86
  exact eq_f i10 (eq_f h45 (eq_b h (eq_t rfl yl0)))
-- small steps
theorem YP.join {n0 b c0 dp m bs op least : Nat} {R : List Int32} {ly : List (Int32 × Int32)} {M : Mem} (hn : 1601 ≤ n0) (h : YP b c0 dp m bs op R ly M) (hR : ∀ o ∈ R, least ≤ rkI o) (hm : m = bs ∨ rkI (gA M 26 (m - 1)) < least) (hc : c0 + ly.length + R.length ≤ 1600) (hl : least ≤ 6) : ∃ M', fX12_joins n0 (nI least) M = some M' ∧ YP b c0 dp m bs op [] (ly ++ fl R) M' ∧ FrJ b (c0 + ly.length) M M' := by
  obtain ⟨h1, h2, h3, h4, h5, h6, h7, h8, h9, h10, h11, h12, h13⟩ := h
  obtain ⟨M', e, q1, q2, q3, q4, q5⟩ := yjoins (n0 := n0) (op0 := op) (least := least) hn h2 ⟨h4.1, by omega⟩ h6 R n0 M ly (by omega) h3 h5 h7 h8 hR hm (by omega) h1 h10 h11 hc h12 (by omega) hl
  refine ⟨M', e, ⟨(q5.1 34 (by decide) (by decide) (by decide)).trans h1, h2, (q5.1 41 (by decide) (by decide) (by decide)).trans h3, h4, ?_, h6, q1, trivial, by simp; omega, q3, q2, q4, by have : nots [] = 0 := rfl; omega⟩, q5⟩
  rw [q5.2.1 25 _ (by omega)]
  exact h5
/-- the memory behind a sign that is held back -/
def yPush (M : Mem) (k : Nat) (o : Int32) : Mem := sI (sA M 26 k o) 44 (nI (k + 1))
theorem YP.push {n0 b c0 dp m bs op : Nat} {o : Int32} {R : List Int32} {ly : List (Int32 × Int32)} {M : Mem} (h : YP b c0 dp m bs op R ly M) (ho : ¬ o = 43) (hr : m + R.length < 400) : fX12_holdsBack n0 o M = some (yPush M (m + R.length) o) ∧ YP b c0 dp m bs op (o :: R) ly (yPush M (m + R.length) o) := by
  obtain ⟨h1, h2, h3, h4, h5, h6, h7, h8, h9, h10, h11, h12, h13⟩ := h
  have hno : nots (o :: R) = nots R := by
    show (if o = 43 then 1 else 0) + nots R = _
    rw [if_neg ho, Nat.zero_add]
  constructor
  · unfold fX12_holdsBack yPush
    refine eq_f (by rw [h7]; exact nI_in (by omega) (by decide)) (eq_n ?_)
    simp only [gI_sA, h7, nI_clamp (show m + R.length < 2 ^ 31 by omega), nI_1]
  · unfold yPush
    refine ⟨?_, h2, ?_, h4, ?_, h6, ?_, (h8.push (op := o)).cong (fun i _ _ => rfl), by simp; omega, ?_, ?_, ?_, by rw [hno]; exact h13⟩
    · rw [gI_ne (by decide)]; exact h1
    · rw [gI_ne (by decide)]; exact h3
    · show gA (sA M 26 (m + R.length) o) 25 _ = _
      rw [gA_sA_ne (by decide)]; exact h5
    · rw [gI_at, List.length_cons]; congr 1
    · rw [gI_ne (by decide)]; exact h10
    · exact h11.cong (fun i _ => ⟨by show gA (sA M 26 (m + R.length) o) 16 _ = _; rw [gA_sA_ne (by decide)], by show gA (sA M 26 (m + R.length) o) 17 _ = _; rw [gA_sA_ne (by decide)]⟩)
    · rw [gI_ne (by decide), hno]; exact h12
theorem YP.add {n0 b c0 dp m bs op : Nat} {x y : Int32} {R : List Int32} {ly : List (Int32 × Int32)} {M : Mem} (h : YP b c0 dp m bs op R ly M) (hl : c0 + ly.length < 1600) : fX12_add n0 x y M = some (yAdd M b (c0 + ly.length) x y) ∧ YP b c0 dp m bs op R (ly ++ [(x, y)]) (yAdd M b (c0 + ly.length) x y) := by
  obtain ⟨h1, h2, h3, h4, h5, h6, h7, h8, h9, h10, h11, h12, h13⟩ := h
  obtain ⟨a1, a2, a3⟩ := h11.add (n0 := n0) (x := x) (y := y) h2 h1 h10 hl
  have ar : ∀ a, a ≠ 16 → a ≠ 17 → gA (yAdd M b (c0 + ly.length) x y) a = gA M a := fun a p q => by
    unfold yAdd
    show gA (sA (sA M 16 _ x) 17 _ y) a = _
    rw [gA_sA_ne q, gA_sA_ne p]
  have ik : ∀ k, k ≠ 33 → gI (yAdd M b (c0 + ly.length) x y) k = gI M k := fun k p => by
    unfold yAdd
    rw [gI_ne p]
    rfl
  refine ⟨a1, by rw [ik _ (by decide)]; exact h1, h2, by rw [ik _ (by decide)]; exact h3, h4, by rw [ar _ (by decide) (by decide)]; exact h5, h6, by rw [ik _ (by decide)]; exact h7, h8.cong (fun i _ _ => by rw [ar _ (by decide) (by decide)]), h9, a3, a2, by rw [ik _ (by decide)]; exact h12, h13⟩
theorem yAdd_FP {b c dp m : Nat} {x y : Int32} {M : Mem} (hc : c < 1600) : FP b c dp m M (yAdd M b c x y) := ((FP.r.a (by unfold pReg; omega)).a (by unfold pReg; omega)).i (by unfold pInt; omega)
theorem yPush_FP {b c dp m k : Nat} {o : Int32} {M : Mem} (hk : m ≤ k) : FP b c dp m M (yPush M k o) := (FP.r.a (by unfold pReg; omega)).i (by unfold pInt; omega)
/-- PR does not see the reader's own cells -/
theorem PR.yw {L s : Nat} {MX MY MY' : Mem} (h : PR L s MX MY) (h1 : ∀ k, k ≤ 12 → gI MY' k = gI MY k) (h2 : gL MY' 7 = gL MY 7) (h3 : gA MY' 1 = gA MY 1) : PR L s MX MY' := h.cong (fun _ _ _ => rfl) rfl rfl rfl h1 h2 h3
theorem PR.add {L s b c : Nat} {x y : Int32} {MX MY : Mem} (h : PR L s MX MY) : PR L s MX (yAdd MY b c x y) := h.yw (fun k hk => by unfold yAdd; rw [gI_ne (by omega)]; rfl) rfl (by unfold yAdd; show gA (sA (sA MY 16 _ x) 17 _ y) 1 = _; rw [gA_sA_ne (by decide), gA_sA_ne (by decide)])
theorem PR.push {L s k : Nat} {o : Int32} {MX MY : Mem} (h : PR L s MX MY) : PR L s MX (yPush MY k o) := h.yw (fun k hk => by unfold yPush; rw [gI_ne (by omega)]; rfl) rfl (by unfold yPush; show gA (sA MY 26 _ o) 1 = _; rw [gA_sA_ne (by decide)])
theorem PR.jn {L s b c : Nat} {MX MY MY' : Mem} (h : PR L s MX MY) (hj : FrJ b c MY MY') : PR L s MX MY' := h.yw (fun k hk => hj.1 k (by omega) (by omega) (by omega)) (by rw [hj.2.2.1]) (by funext i; exact hj.2.1 1 i (by omega))
theorem PR.ar {L s a i : Nat} {v : Int32} {MX MY : Mem} (h : PR L s MX MY) (ha : a ≠ 1) : PR L s MX (sA MY a i v) := h.yw (fun _ _ => rfl) rfl (gA_sA_ne (fun e => ha e.symm))
theorem PR.in_ {L s k : Nat} {v : Int32} {MX MY : Mem} (h : PR L s MX MY) (hk : 12 < k) : PR L s MX (sI MY k v) := h.yw (fun j hj => gI_ne (by omega)) rfl rfl
abbrev isT (x : Int32) : Prop := x = 1 ∨ x = 5 ∨ x = 6
theorem yisT {n0 : Nat} {x : Int32} {M : Mem} : fX12_isTest n0 x M = some (bI (isT x), M) := by
  unfold fX12_isTest
  by_cases h1 : x = 1
  · rw [bI_t (Or.inl h1)]; exact eq_t h1 rfl
  · by_cases h5 : x = 5
    · rw [bI_t (Or.inr (Or.inl h5))]; exact eq_f h1 (eq_t h5 rfl)
    · by_cases h6 : x = 6
      · rw [bI_t (Or.inr (Or.inr h6))]; exact eq_f h1 (eq_f h5 (eq_t h6 rfl))
      · rw [bI_f (by rintro (h | h | h) <;> contradiction)]; exact eq_f h1 (eq_f h5 (eq_f h6 rfl))
end
section
/-! SUMS AND TESTS: what operand() and goesOn() of the reference do at each token -/
abbrev ari (x : Int32) : Prop := x = 43 ∨ x = 45 ∨ x = 42 ∨ x = 47 ∨ x = 37
section REACH
variable {n0 L s dp : Nat} {MX MY : Mem}
theorem e41 (h41 : gI MY 41 = nI dp) (hdp : 1 ≤ dp) : gI MY 41 - 1 = nI (dp - 1) := by
  rw [h41]
  exact nI_subN (b := 1) hdp
theorem yop46 (h : PR L s MX MY) (hb : ¬ gI MX 386 = 258) (h41 : gI MY 41 = nI dp) (hdp : 1 ≤ dp ∧ dp ≤ 9) (hT : isT (gA MY 21 (dp - 1))) (hbg : ¬ gA MY 23 (dp - 1) = 0) : fX12_operand n0 MY = fX12_operand_46 n0 (nI (dp - 1)) 1 MY := by
  have e8 : gI MY 8 ≤ 0 := by rw [h.f8]; exact i00
  have hcl : (nI (dp - 1)).toNatClampNeg = dp - 1 := nI_clamp (by omega)
  have o : ¬ oob (nI (dp - 1)) 20 := nI_in (by omega) (by decide)
  unfold fX12_operand
  refine eq_b (ylexG h hb) (eq_t e8 (eq_n ?_))
  rw [e41 h41 hdp.1]
  simp only [hcl]
  exact eq_f o (eq_b yisT (eq_f (bz hT) (eq_f o (eq_f hbg rfl))))
theorem yop45 (h : PR L s MX MY) (hb : ¬ gI MX 386 = 258) (h41 : gI MY 41 = nI dp) (hdp : 1 ≤ dp ∧ dp ≤ 9) (hT : ¬ isT (gA MY 21 (dp - 1)) ∨ gA MY 23 (dp - 1) = 0) : fX12_operand n0 MY = fX12_operand_46 n0 (nI (dp - 1)) 0 MY := by
  have e8 : gI MY 8 ≤ 0 := by rw [h.f8]; exact i00
  have hcl : (nI (dp - 1)).toNatClampNeg = dp - 1 := nI_clamp (by omega)
  have o : ¬ oob (nI (dp - 1)) 20 := nI_in (by omega) (by decide)
  unfold fX12_operand fX12_operand_45
  refine eq_b (ylexG h hb) (eq_t e8 (eq_n ?_))
  rw [e41 h41 hdp.1]
  simp only [hcl]
  refine eq_f o (eq_b yisT ?_)
  by_cases g : isT (gA MY 21 (dp - 1))
  · rcases hT with q | q
    · exact absurd g q
    · exact eq_f (bz g) (eq_f o (eq_t q rfl))
  · exact eq_t (bI_f g) rfl
theorem yop110 {u : Int32} (h : PR L s MX MY) (hb : ¬ gI MX 386 = 258) (hdp : 1 ≤ dp ∧ dp ≤ 9) (hu : u = 0 ∨ (¬ gI MX 386 = 91 ∧ ¬ gI MX 386 = 282)) : fX12_operand_110 n0 (nI (dp - 1)) u MY = fX12_operand_171 n0 (sA MY 23 (dp - 1) 0) := by
  have hcl : (nI (dp - 1)).toNatClampNeg = dp - 1 := nI_clamp (by omega)
  have o : ¬ oob (nI (dp - 1)) 20 := nI_in (by omega) (by decide)
  have h1 : PR L s MX (sA MY 23 (dp - 1) 0) := h.ar (by decide)
  unfold fX12_operand_110 fX12_operand_137
  simp only [hcl]
  refine eq_f o (eq_n ?_)
  by_cases g : u = 0
  · exact eq_t g (eq_t g rfl)
  · rcases hu with q | q
    · exact absurd q g
    · exact eq_f g (eq_b (ySign (by decide) h1) (eq_t (bI_f q.1) (eq_f g (eq_b (yWord (i := 22) (kk := 282) (by decide) (by decide) (by decide) h1 hb) (eq_t (bI_f q.2) rfl)))))
theorem yop171 (h : PR L s MX MY) (hb : ¬ gI MX 386 = 258) (h41 : gI MY 41 = nI dp) (hdp : 1 ≤ dp ∧ dp ≤ 9) (hF : ¬ isT (gA MY 21 (dp - 1)) ∨ gA MY 23 (dp - 1) = 0 ∨ (¬ gI MX 386 = 281 ∧ ¬ gI MX 386 = 91 ∧ ¬ gI MX 386 = 282)) : fX12_operand n0 MY = fX12_operand_171 n0 (sA MY 23 (dp - 1) 0) := by
  by_cases g : ¬ isT (gA MY 21 (dp - 1)) ∨ gA MY 23 (dp - 1) = 0
  · rw [yop45 h hb h41 hdp g]
    unfold fX12_operand_46
    exact eq_t rfl (yop110 h hb hdp (Or.inl rfl))
  · have g1 : isT (gA MY 21 (dp - 1)) := Decidable.byContradiction (fun q => g (Or.inl q))
    have g2 : ¬ gA MY 23 (dp - 1) = 0 := fun q => g (Or.inr q)
    have g3 : ¬ gI MX 386 = 281 ∧ ¬ gI MX 386 = 91 ∧ ¬ gI MX 386 = 282 := by
      rcases hF with q | q | q
      · exact absurd g1 q
      · exact absurd q g2
      · exact q
    rw [yop46 h hb h41 hdp g1 g2]
    unfold fX12_operand_46
    exact eq_f i10 (eq_b (yWord (i := 21) (kk := 281) (by decide) (by decide) (by decide) h hb) (eq_t (bI_f g3.1) (yop110 h hb hdp (Or.inr g3.2))))
theorem yopBr (h : PR L s MX MY) (hk : gI MX 386 = 91) (h41 : gI MY 41 = nI dp) (hdp : 1 ≤ dp ∧ dp ≤ 9) (hT : isT (gA MY 21 (dp - 1))) (hbg : ¬ gA MY 23 (dp - 1) = 0) : fX12_operand n0 MY = (fX12_opens n0 5 (sA MY 23 (dp - 1) 0)).bind fun z => some (0, z) := by
  have hb : ¬ gI MX 386 = 258 := by rw [hk]; decide
  have hcl : (nI (dp - 1)).toNatClampNeg = dp - 1 := nI_clamp (by omega)
  have o : ¬ oob (nI (dp - 1)) 20 := nI_in (by omega) (by decide)
  rw [yop46 h hb h41 hdp hT hbg]
  unfold fX12_operand_46 fX12_operand_110
  simp only [hcl]
  exact eq_f i10 (eq_b (yWord (i := 21) (kk := 281) (by decide) (by decide) (by decide) h hb) (eq_t (bI_f (by rw [hk]; decide)) (eq_f o (eq_n (eq_f i10 (eq_b (ySign (by decide) (h.ar (by decide))) (eq_f (bz hk) rfl)))))))
theorem yopAll (h : PR L s MX MY) (hk : gI MX 386 = 282) (h41 : gI MY 41 = nI dp) (hdp : 1 ≤ dp ∧ dp ≤ 9) (hT : isT (gA MY 21 (dp - 1))) (hbg : ¬ gA MY 23 (dp - 1) = 0) : fX12_operand n0 MY = (fX12_add n0 30 0 (sA MY 23 (dp - 1) 0)).bind fun z => (fX12_ahead n0 (sA z 22 (dp - 1) 2)).bind fun z2 => some (1, z2) := by
  have hb : ¬ gI MX 386 = 258 := by rw [hk]; decide
  have hcl : (nI (dp - 1)).toNatClampNeg = dp - 1 := nI_clamp (by omega)
  have o : ¬ oob (nI (dp - 1)) 20 := nI_in (by omega) (by decide)
  have h1 : PR L s MX (sA MY 23 (dp - 1) 0) := h.ar (by decide)
  rw [yop46 h hb h41 hdp hT hbg]
  unfold fX12_operand_46 fX12_operand_110 fX12_operand_137
  simp only [hcl]
  refine eq_f i10 (eq_b (yWord (i := 21) (kk := 281) (by decide) (by decide) (by decide) h hb) (eq_t (bI_f (by rw [hk]; decide)) (eq_f o (eq_n (eq_f i10 (eq_b (ySign (by decide) h1) (eq_t (bI_f (by rw [hk]; decide)) (eq_f i10 (eq_b (yWord (i := 22) (kk := 282) (by decide) (by decide) (by decide) h1 hb) (eq_f (bz hk) ?_))))))))))
  show ((fX12_add n0 30 0 (sA MY 23 (dp - 1) 0)).bind fun z155 => if oob (nI (dp - 1)) 20 then none else bnd (sA z155 22 (dp - 1) 2) fun M164 => (fX12_ahead n0 M164).bind fun z166 => some (1, z166)) = _
  congr 1
  funext z
  exact eq_f o rfl
theorem yopNot (h : PR L s MX MY) (hk : gI MX 386 = 281) (h41 : gI MY 41 = nI dp) (hdp : 1 ≤ dp ∧ dp ≤ 9) (hT : isT (gA MY 21 (dp - 1))) (hbg : ¬ gA MY 23 (dp - 1) = 0) : (gI MY 42 = 7 → fX12_operand n0 MY = some (1, sI (sI MY 8 5) 9 (nI s))) ∧ (¬ gI MY 42 = 7 → fX12_operand n0 MY = (fX12_holdsBack n0 43 (sI MY 42 (gI MY 42 + 1))).bind fun z => (fX12_ahead n0 z).bind fun z2 => some (0, z2)) := by
  have hb : ¬ gI MX 386 = 258 := by rw [hk]; decide
  have e8 : gI MY 8 ≤ 0 := by rw [h.f8]; exact i00
  rw [yop46 h hb h41 hdp hT hbg]
  unfold fX12_operand_46 fX12_operand_79
  constructor
  · intro h7
    refine eq_f i10 (eq_b (yWord (i := 21) (kk := 281) (by decide) (by decide) (by decide) h hb) (eq_f (bz hk) (eq_t h7 (eq_b (yblame0 h.f8) ?_))))
    rw [show gI (bI (gI MX 386 = 281), MY).2 4 = nI s from h.at_]
    exact eq_f (n8f (k := 5) (by decide) (by decide)) rfl
  · intro h7
    exact eq_f i10 (eq_b (yWord (i := 21) (kk := 281) (by decide) (by decide) (by decide) h hb) (eq_f (bz hk) (eq_f h7 (eq_t e8 rfl))))
-- operand_171
theorem y171o (h : PR L s MX MY) (hk : gI MX 386 = 40) : fX12_operand_171 n0 MY = (fX12_opens n0 2 MY).bind fun z => some (0, z) := by
  unfold fX12_operand_171
  exact eq_b (ySign (by decide) h) (eq_f (bz hk) rfl)
theorem y171w (h : PR L s MX MY) (hk : gI MX 386 = 283 ∨ gI MX 386 = 284 ∨ gI MX 386 = 278) : fX12_operand_171 n0 MY = fX12_operand_249 n0 (if gI MX 386 = 283 then 36 else if gI MX 386 = 284 then 37 else 44) MY := by
  have hb : ¬ gI MX 386 = 258 := by rcases hk with e | e | e <;> rw [e] <;> decide
  have h40 : ¬ gI MX 386 = 40 := by rcases hk with e | e | e <;> rw [e] <;> decide
  have w1 : fX12_isWord n0 7170414 MY = some (bI (gI MX 386 = 283), MY) := yWord (i := 23) (by decide) (by decide) (by decide) h hb
  have w2 : fX12_isWord n0 7168376 MY = some (bI (gI MX 386 = 284), MY) := yWord (i := 24) (by decide) (by decide) (by decide) h hb
  have w3 : fX12_isWord n0 26982 MY = some (bI (gI MX 386 = 278), MY) := yWord (i := 18) (by decide) (by decide) (by decide) h hb
  unfold fX12_operand_171 fX12_operand_217
  refine eq_b (ySign (by decide) h) (eq_t (bI_f h40) ?_)
  by_cases e1 : gI MX 386 = 283
  · rw [if_pos e1]
    exact eq_b w1 (eq_f (bz e1) (eq_b w1 (eq_f (bz e1) rfl)))
  · rw [if_neg e1]
    by_cases e2 : gI MX 386 = 284
    · rw [if_pos e2]
      exact eq_b w1 (eq_t (bI_f e1) (eq_b w2 (eq_f (bz e2) (eq_b w1 (eq_t (bI_f e1) (eq_b w2 (eq_f (bz e2) rfl)))))))
    · rw [if_neg e2]
      have e3 : gI MX 386 = 278 := by
        rcases hk with q | q | q
        · exact absurd q e1
        · exact absurd q e2
        · exact q
      exact eq_b w1 (eq_t (bI_f e1) (eq_b w2 (eq_t (bI_f e2) (eq_b w3 (eq_f (bz e3) (eq_b w1 (eq_t (bI_f e1) (eq_b w2 (eq_t (bI_f e2) rfl)))))))))
/-- the reference's sort of a token that stands for a value -/
def sortOf (k : Int32) : Int32 := if k = 256 then 0 else if k = 261 then 1 else if k = 275 then 2 else if k = 263 then 3 else if k = 276 then 4 else if k = 277 then 5 else if k = 262 then 6 else -1
theorem y171l (h : PR L s MX MY) (hb : ¬ gI MX 386 = 258) (h1 : ¬ gI MX 386 = 40) (h2 : ¬ gI MX 386 = 283) (h3 : ¬ gI MX 386 = 284) (h4 : ¬ gI MX 386 = 278) : fX12_operand_171 n0 MY = fX12_operand_411 n0 (sortOf (gI MX 386)) MY := by
  have w1 : fX12_isWord n0 7170414 MY = some (bI (gI MX 386 = 283), MY) := yWord (i := 23) (by decide) (by decide) (by decide) h hb
  have w2 : fX12_isWord n0 7168376 MY = some (bI (gI MX 386 = 284), MY) := yWord (i := 24) (by decide) (by decide) (by decide) h hb
  have w3 : fX12_isWord n0 26982 MY = some (bI (gI MX 386 = 278), MY) := yWord (i := 18) (by decide) (by decide) (by decide) h hb
  have v1 : fX12_isWord n0 512802514792 MY = some (bI (gI MX 386 = 261), MY) := yWord (i := 1) (by decide) (by decide) (by decide) h hb
  have v2 : fX12_isWord n0 1751477348 MY = some (bI (gI MX 386 = 275), MY) := yWord (i := 15) (by decide) (by decide) (by decide) h hb
  have v3 : fX12_isWord n0 109330312357234 MY = some (bI (gI MX 386 = 263), MY) := yWord (i := 3) (by decide) (by decide) (by decide) h hb
  have v4 : fX12_isWord n0 120299592184933 MY = some (bI (gI MX 386 = 276), MY) := yWord (i := 16) (by decide) (by decide) (by decide) h hb
  have v5 : fX12_isWord n0 435627783289 MY = some (bI (gI MX 386 = 277), MY) := yWord (i := 17) (by decide) (by decide) (by decide) h hb
  have v6 : fX12_isWord n0 465491424371 MY = some (bI (gI MX 386 = 262), MY) := yWord (i := 2) (by decide) (by decide) (by decide) h hb
  have hs := h.2.1.2.2.2.2.sg2 hb
  unfold fX12_operand_171 sortOf
  refine eq_b (ySign (by decide) h) (eq_t (bI_f h1) (eq_b w1 (eq_t (bI_f h2) (eq_b w2 (eq_t (bI_f h3) (eq_b w3 (eq_t (bI_f h4) ?_)))))))
  by_cases g0 : gI MX 386 = 256
  · rw [if_pos g0]
    exact eq_t (hs.1.mpr g0) rfl
  rw [if_neg g0]
  refine eq_f (fun q => g0 (hs.1.mp q)) ?_
  by_cases g1 : gI MX 386 = 261
  · rw [if_pos g1]
    exact eq_b v1 (eq_f (bz g1) rfl)
  rw [if_neg g1]
  refine eq_b v1 (eq_t (bI_f g1) ?_)
  by_cases g2 : gI MX 386 = 275
  · rw [if_pos g2]
    exact eq_b v2 (eq_f (bz g2) rfl)
  rw [if_neg g2]
  refine eq_b v2 (eq_t (bI_f g2) ?_)
  by_cases g3 : gI MX 386 = 263
  · rw [if_pos g3]
    exact eq_b v3 (eq_f (bz g3) rfl)
  rw [if_neg g3]
  refine eq_b v3 (eq_t (bI_f g3) ?_)
  by_cases g4 : gI MX 386 = 276
  · rw [if_pos g4]
    exact eq_b v4 (eq_f (bz g4) rfl)
  rw [if_neg g4]
  refine eq_b v4 (eq_t (bI_f g4) ?_)
  by_cases g5 : gI MX 386 = 277
  · rw [if_pos g5]
    exact eq_b v5 (eq_f (bz g5) rfl)
  rw [if_neg g5]
  refine eq_b v5 (eq_t (bI_f g5) ?_)
  by_cases g6 : gI MX 386 = 262
  · rw [if_pos g6]
    exact eq_b v6 (eq_f (bz g6) rfl)
  rw [if_neg g6]
  exact eq_b v6 (eq_t (bI_f g6) rfl)
theorem y437F (h : PR L s MX MY) : fX12_operand_437 n0 (-1) MY = some (1, sI (sI MY 8 1) 9 (nI s)) := by
  unfold fX12_operand_437 fX12_operand_451
  rw [h.at_]
  exact eq_t rfl (eq_b (yblame0 h.f8) (eq_f (n8f (k := 1) (by decide) (by decide)) rfl))
theorem y437 {x : Int32} (h : PR L s MX MY) (hx : ¬ x = -1) : fX12_operand_437 n0 x MY = (fX12_add n0 x (gI MY 6) MY).bind fun z => (fX12_ahead n0 z).bind fun z2 => some (1, z2) := by
  have e8 : gI MY 8 ≤ 0 := by rw [h.f8]; exact i00
  unfold fX12_operand_437 fX12_operand_451
  exact eq_f hx (eq_t e8 rfl)
-- goesOn
theorem ygoA (h : PR L s MX MY) (hk : ari (gI MX 386)) (h41 : gI MY 41 = nI dp) (hdp : 1 ≤ dp ∧ dp ≤ 9) (hph : ¬ (2 : Int32) ≤ gA MY 22 (dp - 1)) : fX12_goesOn n0 MY = fX12_goesOn_112 n0 (if gI MX 386 = 43 ∨ gI MX 386 = 45 then 5 else 6) MY := by
  have hb : ¬ gI MX 386 = 258 := by rcases hk with e | e | e | e | e <;> rw [e] <;> decide
  have e8 : gI MY 8 ≤ 0 := by rw [h.f8]; exact i00
  have hcl : (nI (dp - 1)).toNatClampNeg = dp - 1 := nI_clamp (by omega)
  have o : ¬ oob (nI (dp - 1)) 20 := nI_in (by omega) (by decide)
  have tail : fX12_goesOn_87 n0 MY = fX12_goesOn_112 n0 (if gI MX 386 = 43 ∨ gI MX 386 = 45 then 5 else 6) MY := by
    unfold fX12_goesOn_87 fX12_goesOn_106
    refine eq_b (ySign (by decide) h) ?_
    by_cases g1 : gI MX 386 = 43
    · rw [if_pos (Or.inl g1)]
      exact eq_f (bz g1) rfl
    · refine eq_t (bI_f g1) (eq_b (ySign (by decide) h) ?_)
      by_cases g2 : gI MX 386 = 45
      · rw [if_pos (Or.inr g2)]
        exact eq_f (bz g2) rfl
      · have hno : ¬ (gI MX 386 = 43 ∨ gI MX 386 = 45) := by rintro (q | q) <;> contradiction
        rw [if_neg hno]
        exact eq_t (bI_f g2) rfl
  unfold fX12_goesOn
  refine eq_b (ylexG h hb) (eq_t e8 (eq_n ?_))
  rw [e41 h41 hdp.1]
  simp only [hcl]
  refine eq_f o (eq_n (eq_b yisT (eq_f o (eq_f hph (eq_b (ySign (by decide) h) ?_)))))
  by_cases g1 : gI MX 386 = 43
  · exact eq_f (bz g1) tail
  refine eq_t (bI_f g1) (eq_b (ySign (by decide) h) ?_)
  by_cases g2 : gI MX 386 = 45
  · exact eq_f (bz g2) tail
  refine eq_t (bI_f g2) (eq_b (ySign (by decide) h) ?_)
  by_cases g3 : gI MX 386 = 42
  · exact eq_f (bz g3) tail
  refine eq_t (bI_f g3) (eq_b (ySign (by decide) h) ?_)
  by_cases g4 : gI MX 386 = 47
  · exact eq_f (bz g4) tail
  refine eq_t (bI_f g4) (eq_b (ySign (by decide) h) ?_)
  have g5 : gI MX 386 = 37 := by
    rcases hk with q | q | q | q | q
    · exact absurd q g1
    · exact absurd q g2
    · exact absurd q g3
    · exact absurd q g4
    · exact q
  exact eq_f (bz g5) tail
theorem ygo188 (h : PR L s MX MY) (hb : ¬ gI MX 386 = 258) (hk : ¬ ari (gI MX 386) ∨ (2 : Int32) ≤ gA MY 22 (dp - 1)) (h41 : gI MY 41 = nI dp) (hdp : 1 ≤ dp ∧ dp ≤ 9) : fX12_goesOn n0 MY = fX12_goesOn_188 n0 (nI (dp - 1)) (gA MY 21 (dp - 1)) (bI (isT (gA MY 21 (dp - 1)))) MY := by
  have e8 : gI MY 8 ≤ 0 := by rw [h.f8]; exact i00
  have hcl : (nI (dp - 1)).toNatClampNeg = dp - 1 := nI_clamp (by omega)
  have o : ¬ oob (nI (dp - 1)) 20 := nI_in (by omega) (by decide)
  unfold fX12_goesOn
  refine eq_b (ylexG h hb) (eq_t e8 (eq_n ?_))
  rw [e41 h41 hdp.1]
  simp only [hcl]
  refine eq_f o (eq_n (eq_b yisT (eq_f o ?_)))
  by_cases hph : (2 : Int32) ≤ gA MY 22 (dp - 1)
  · exact eq_t hph rfl
  · have na : ¬ ari (gI MX 386) := by
      rcases hk with q | q
      · exact q
      · exact absurd q hph
    refine eq_f hph (eq_b (ySign (by decide) h) (eq_t (bI_f (fun q => na (Or.inl q))) (eq_b (ySign (by decide) h) (eq_t (bI_f (fun q => na (Or.inr (Or.inl q)))) (eq_b (ySign (by decide) h) (eq_t (bI_f (fun q => na (Or.inr (Or.inr (Or.inl q))))) (eq_b (ySign (by decide) h) (eq_t (bI_f (fun q => na (Or.inr (Or.inr (Or.inr (Or.inl q)))))) (eq_b (ySign (by decide) h) (eq_t (bI_f (fun q => na (Or.inr (Or.inr (Or.inr (Or.inr q)))))) rfl))))))))))
theorem ygoB (h : PR L s MX MY) (hb : gI MX 386 = 258) : fX12_goesOn n0 MY = some (0, sI (sI MY 8 1) 9 (gI MX 388)) := by
  unfold fX12_goesOn
  exact eq_b (ylexB h hb) (eq_f (n8f (k := 1) (by decide) (by decide)) rfl)
theorem yopB (h : PR L s MX MY) (hb : gI MX 386 = 258) : fX12_operand n0 MY = some (1, sI (sI MY 8 1) 9 (gI MX 388)) := by
  unfold fX12_operand
  exact eq_b (ylexB h hb) (eq_f (n8f (k := 1) (by decide) (by decide)) rfl)
end REACH
end
section
/-! SUMS AND TESTS: both readers side by side -/
def En (L s qf b c0 dp m bs op pw : Nat) (lx : List Int32) (ly : List (Int32 × Int32)) (MX MY : Mem) : Prop :=
  PR L s MX MY ∧ gR MX 257 = qf ∧ (qf = 43 ∨ qf = 45 ∨ qf = 59 ∨ qf = 61) ∧ xlist MX qf lx ∧ YP b c0 dp m bs op [] ly MY ∧ (gI MX 258 = gI MY 35 ∧ (gI MX 258 = 0 ∨ gI MX 258 = 1)) ∧ dp ≤ op + 1 ∧ m ≤ pw ∧ c0 + lx.length + pw ≤ s ∧ ly.length ≤ lx.length ∧ gI MY 45 = 0
/-- behind a phrase, from the entry (MX, MY) on -/
def St (n0 L s qf b c0 dp m bs op pw : Nat) (lx : List Int32) (ly : List (Int32 × Int32)) (MX MY : Mem) (rl r D : Nat) (t : Bool) (MX' MY' : Mem) (s' k : Nat) (δ : List (Int32 × Int32)) (R : List Int32) (ly' : List (Int32 × Int32)) : Prop :=
  (∀ w, YLp n0 (w + k) MY = YLp n0 w MY') ∧ s + k ≤ s' ∧ s < s' ∧ PR L s' MX' MY' ∧ xlist MX' qf (lx ++ exL δ) ∧ YP b c0 dp m bs op R ly' MY' ∧ ly' ++ fl R = ly ++ δ ∧ (∀ o ∈ R, r ≤ rkI o) ∧ R.length ≤ rl ∧ c0 + (lx ++ exL δ).length + pw ≤ s' ∧ gI MY' 45 = 1 ∧ (∀ st, st.length + D ≤ 60 → tyL δ st = some (t :: st)) ∧ 0 < δ.length ∧ FPx qf MX MX' ∧ FP b (c0 + ly.length) dp m MY MY' ∧ ly.length ≤ ly'.length
def Ok (n0 L s qf b c0 dp m bs op pw : Nat) (lx : List Int32) (ly : List (Int32 × Int32)) (MX MY : Mem) (rl r D : Nat) (t : Bool) (Q : Mem → Mem → Prop) (rx : Option (Int32 × Mem)) : Prop :=
  ∃ MX' MY' s' k δ R ly', rx = some (1, MX') ∧ St n0 L s qf b c0 dp m bs op pw lx ly MX MY rl r D t MX' MY' s' k δ R ly' ∧ Q MX' MY'
def Bad (n0 s qf b c0 dp m : Nat) (ly : List (Int32 × Int32)) (MX MY : Mem) (rx : Option (Int32 × Mem)) : Prop :=
  ∃ MX' MY' k, rx = some (0, MX') ∧ (∀ w, YLp n0 (w + k) MY = some MY') ∧ s + k ≤ 1602 ∧ Flt MX' MY' ∧ FPx qf MX MX' ∧ FP b (c0 + ly.length) dp m MY MY'
theorem exL_app {a b : List (Int32 × Int32)} : exL (a ++ b) = exL a ++ exL b := by unfold exL; exact List.flatMap_append
theorem exL_one {c : Int32 × Int32} : exL [c] = ex1 c := by unfold exL; simp
theorem ex1_len {c : Int32 × Int32} : 1 ≤ (ex1 c).length := by
  unfold ex1
  repeat' split
  all_goals simp
theorem exL_len {δ : List (Int32 × Int32)} : δ.length ≤ (exL δ).length := by
  induction δ with
  | nil => simp
  | cons c δ ih =>
    rw [show c :: δ = [c] ++ δ from rfl, exL_app, exL_one, List.length_append, List.length_append]
    have := ex1_len (c := c)
    simp
    omega
theorem tyL_app : ∀ {a b : List (Int32 × Int32)} {st : List Bool}, tyL (a ++ b) st = (tyL a st).bind (tyL b)
  | [], _, _ => rfl
  | c :: a, b, st => by
    show (ty1 c st).bind (tyL (a ++ b)) = ((ty1 c st).bind (tyL a)).bind (tyL b)
    cases ty1 c st with
    | none => rfl
    | some st' => exact tyL_app
theorem tyL_one {c : Int32 × Int32} {st : List Bool} : tyL [c] st = ty1 c st := by
  show (ty1 c st).bind (tyL []) = _
  cases ty1 c st with
  | none => rfl
  | some st' => rfl
/-- what the class adds to its formula -/
def xAd (qf n : Nat) (x : Int32) (M : Mem) : Mem := sI (sA M (qf + 1) n x) (128 * qf + 1) (nI (n + 1))
theorem xAd_FP {qf n : Nat} {x : Int32} {M : Mem} : FPx qf M (xAd qf n x M) := ⟨fun k q => by unfold xAd; rw [gI_ne (by omega)]; rfl, fun a q => by unfold xAd; show gA (sA M (qf + 1) n x) a = _; rw [gA_sA_ne q], rfl⟩
theorem PR.xad {L s qf n : Nat} {x : Int32} {MX MY : Mem} (h : PR L s MX MY) (hq : qf = 43 ∨ qf = 45 ∨ qf = 59 ∨ qf = 61) : PR L s (xAd qf n x MX) MY := by
  refine h.cong (fun j h1 h2 => ?_) ?_ ?_ ?_ (fun _ _ => rfl) rfl rfl
  · unfold xAd; rw [gI_ne (by omega)]; rfl
  · unfold xAd; rw [gI_ne (by omega)]; rfl
  · unfold xAd; show gA (sA MX (qf + 1) n x) 4 = _; rw [gA_sA_ne (by omega)]
  · unfold xAd; show gA (sA MX (qf + 1) n x) 6 = _; rw [gA_sA_ne (by omega)]
theorem xlist.ad {n0 qf : Nat} {x : Int32} {l : List Int32} {M : Mem} (h : xlist M qf l) (hl : l.length < 1600) : fX0_add n0 qf x M = some (xAd qf l.length x M) ∧ xlist (xAd qf l.length x M) qf (l ++ [x]) := h.add hl
theorem xlist.fi {qf : Nat} {l : List Int32} {M M' : Mem} (h : xlist M qf l) (hf : FI 386 392 M M') (hq : qf = 43 ∨ qf = 45 ∨ qf = 59 ∨ qf = 61) : xlist M' qf l := h.cong (hf.2 _ (by omega)) (by rw [hf.A])
theorem xAA {n0 L s qf : Nat} {x : Int32} {lx : List Int32} {MX MX' : Mem} (hx : xlist MX qf lx) (h257 : gR MX 257 = qf) (hl : lx.length < 1600) (ha : fX8_advance n0 (xAd qf lx.length x MX) = some MX') : fX3_addAndAdvance n0 x MX = some (1, MX') := by
  unfold fX3_addAndAdvance
  rw [h257]
  exact eq_b (hx.ad hl).1 (eq_b ha rfl)
theorem En.sL {L s qf b c0 dp m bs op pw : Nat} {lx : List Int32} {ly : List (Int32 × Int32)} {MX MY : Mem} (h : En L s qf b c0 dp m bs op pw lx ly MX MY) : s ≤ 1600 := by
  have := h.1.2.1.2.2.1
  have := h.1.L16
  omega
/-- a fault that both tell at once -/
theorem badOp {n0 L s qf b c0 dp m bs op pw k : Nat} {p r : Int32} {lx : List Int32} {ly : List (Int32 × Int32)} {MX MY M1 : Mem} {rx : Option (Int32 × Mem)} (h : En L s qf b c0 dp m bs op pw lx ly MX MY) (h1 : 1 ≤ k) (h6 : k ≤ 6) (hr : r = 0 ∨ r = 1) (hx : rx = some (0, sI (sI MX 391 (nI k)) 392 p)) (hf : FP b (c0 + ly.length) dp m MY M1) (hy : fX12_operand n0 MY = some (r, sI (sI M1 8 (nI k)) 9 p)) : Bad n0 s qf b c0 dp m ly MX MY rx := by
  have n8 : ¬ gI (sI (sI M1 8 (nI k)) 9 p) 8 = 0 := pos_ne (n8f h1 h6)
  have := h.sL
  refine ⟨_, sI (sI (sI M1 8 (nI k)) 9 p) 45 r, 2, hx, fun w => ylopF h.2.2.2.2.2.2.2.2.2.2 hr hy n8, by omega, ?_, FIf.p, ((hf.i (by unfold pInt; omega)).i (by unfold pInt; omega)).i (by unfold pInt; omega)⟩
  exact (Flt.mk (MX := MX) (MY := M1) (p := p) h1 h6).cong rfl rfl (gI_ne (by decide)) (gI_ne (by decide))
/-- a value -/
theorem leafP {n0 L s qf b c0 dp m bs op pw D rl r : Nat} {so v x : Int32} {t : Bool} {lx : List Int32} {ly : List (Int32 × Int32)} {MX MY M1 : Mem} {rx : Option (Int32 × Mem)} {Q : Mem → Mem → Prop} (f : Mem → Mem) (hn : 1601 ≤ n0) (h : En L s qf b c0 dp m bs op pw lx ly MX MY) (hs : s < L) (h1 : PR L s MX M1) (h2 : YP b c0 dp m bs op [] ly M1) (h3 : FP b (c0 + ly.length) dp m MY M1)
    (hf1 : PR L s (xAd qf lx.length x MX) (f (yAdd M1 b (c0 + ly.length) so v))) (hf2 : YP b c0 dp m bs op [] (ly ++ [(so, v)]) (f (yAdd M1 b (c0 + ly.length) so v))) (hf3 : FP b (c0 + ly.length) dp m (yAdd M1 b (c0 + ly.length) so v) (f (yAdd M1 b (c0 + ly.length) so v)))
    (hy : fX12_operand n0 MY = (fX12_add n0 so v M1).bind fun z => (fX12_ahead n0 (f z)).bind fun z2 => some (1, z2)) (hx : ∀ MX', fX3_addAndAdvance n0 x MX = some (1, MX') → rx = some (1, MX')) (hex : ex1 (so, v) = [x]) (hty : ∀ st : List Bool, st.length < 60 → ty1 (so, v) st = some (t :: st)) (hD : 1 ≤ D) (hQ : ∀ MX' MY', FrY (f (yAdd M1 b (c0 + ly.length) so v)) MY' → Q MX' (sI MY' 45 1)) :
    Ok n0 L s qf b c0 dp m bs op pw lx ly MX MY rl r D t Q rx := by
  obtain ⟨hP, h257, hq, hxl, hYP, h258, hdo, hmp, hcs, hll, h45⟩ := h
  have hL16 := hP.L16
  have hlx : lx.length < 1600 := by omega
  obtain ⟨ea, ya⟩ := h2.add (n0 := n0) (x := so) (y := v) (by omega)
  obtain ⟨MX', MY', s', ax, ay, hs', hP', fx, fy⟩ := hf1.adv hn hs
  have fY := fy.Y
  have h8 : gI MY' 8 = 0 := hP'.f8
  refine ⟨MX', sI MY' 45 1, s', 1, [(so, v)], [], ly ++ [(so, v)], hx _ (xAA (L := L) (s := s) hxl h257 hlx ax), ⟨fun w => ylop h45 (Or.inr rfl) (hy.trans (eq_b ea (eq_b ay rfl))) h8, by omega, hs', hP'.in_ (by decide), ?_, ?_, by simp [fl], fun o ho => by simp at ho, by simp, ?_, gI_at, fun st hst => by rw [tyL_one]; exact hty st (by omega), by simp, ?_, ?_, by simp⟩, hQ _ _ fY⟩
  · rw [exL_one, hex]
    exact ((hxl.ad (n0 := n0) (x := x) hlx).2).fi (fx.wk (by decide) (by decide)) hq
  · exact (hf2.tok fY).cong (fun k hk => gI_ne (by omega)) (fun a _ => rfl)
  · rw [exL_one, hex]
    simp
    omega
  · exact xAd_FP.tr (fx.wk (a' := 386) (b' := 392) (by decide) (by decide)).p
  · exact (((h3.tr (yAdd_FP (by omega))).tr hf3).tr fY.p).i (by unfold pInt; omega)
/-- a sign is held back: from behind a phrase to the entry of the next one -/
def Nx (n0 L qf b c0 dp m bs op pw : Nat) (lx : List Int32) (ly : List (Int32 × Int32)) (MXc MYc : Mem) (sc cl : Nat) (opc : Int32) (MX1 MY1 : Mem) (s1 : Nat) : Prop :=
  fX8_advance n0 MXc = some MX1 ∧ (∀ w, YLp n0 (w + 1) MYc = YLp n0 w MY1) ∧ sc < s1 ∧ En L s1 qf b c0 dp (m + 1) bs op (pw + 1) lx ly MX1 MY1 ∧ gA MY1 26 m = opc ∧ FP b cl dp m MYc MY1 ∧ FI 386 392 MXc MX1
theorem comb {n0 L s qf b c0 dp m bs op pw rl r D rl2 r2 D2 : Nat} {ta tb tc : Bool} {opc x : Int32} {lx : List Int32} {ly : List (Int32 × Int32)} {MX MY MXc MYc MX1 MY1 MX2 MY2 : Mem} {sc k s1 s2 k2 rlc : Nat} {δ δ2 ly2 : List (Int32 × Int32)} {R R2 : List Int32} {lyc : List (Int32 × Int32)} (hn : 1601 ≤ n0) (h : En L s qf b c0 dp m bs op pw lx ly MX MY) (hS : St n0 L s qf b c0 dp m bs op pw lx ly MX MY rl r D ta MXc MYc sc k δ R lyc) (hN : Nx n0 L qf b c0 dp m bs op pw (lx ++ exL δ) (ly ++ δ) MXc MYc sc (c0 + ly.length) opc MX1 MY1 s1) (hS2 : St n0 L s1 qf b c0 dp (m + 1) bs op (pw + 1) (lx ++ exL δ) (ly ++ δ) MX1 MY1 rl2 r2 D2 tb MX2 MY2 s2 k2 δ2 R2 ly2) (ho : ¬ opc = 43) (hex : ex1 (opc, 0) = [x]) (hr : r ≤ rkI opc ∧ r ≤ r2) (hl : rl2 + 1 ≤ rlc) (hty : ∀ st : List Bool, ty1 (opc, 0) (tb :: ta :: st) = some (tc :: st)) (hD : D2 + 1 ≤ D) :
    fX0_add n0 (gR MX2 257) x MX2 = some (xAd qf (lx ++ exL δ ++ exL δ2).length x MX2) ∧ St n0 L s qf b c0 dp m bs op pw lx ly MX MY rlc r D tc (xAd qf (lx ++ exL δ ++ exL δ2).length x MX2) MY2 s2 (k2 + 1 + k) (δ ++ δ2 ++ [(opc, 0)]) (R2 ++ [opc]) ly2 := by
  obtain ⟨hP, h257, hq, hxl, hYP, h258, hdo, hmp, hcs, hll, h45⟩ := h
  obtain ⟨a1, a2, a3, a4, a5, a6, a7, a8, a9, a10, a11, a12, a13, a14, a15, a16⟩ := hS
  obtain ⟨n1, n2, n3, n4, n5, n6, n7⟩ := hN
  obtain ⟨b1, b2, b3, b4, b5, b6, b7, b8, b9, b10, b11, b12, b13, b14, b15, b16⟩ := hS2
  have sL := b4.2.1.2.2.1
  have hL16 := b4.L16
  have hlen : (lx ++ exL δ ++ exL δ2).length < 1600 := by omega
  have g257 : gR MX2 257 = qf := by rw [b14.2.2, n7.R, a14.2.2]; exact h257
  obtain ⟨e1, e2⟩ := b5.ad (n0 := n0) (x := x) hlen
  have o26 : gA MY2 26 m = opc := (b15.2.1 26 m (by unfold pReg; omega)).trans n5
  have hbs := hYP.2.2.2.2.2.1
  have eex : exL (δ ++ δ2 ++ [(opc, 0)]) = exL δ ++ exL δ2 ++ [x] := by rw [exL_app, exL_app, exL_one, hex]
  refine ⟨by rw [g257]; exact e1, fun w => ?_, by omega, by omega, b4.xad hq, ?_, ?_, ?_, ?_, by rw [List.length_append]; simp; omega, ?_, b11, ?_, by simp; omega, ?_, ?_, by rw [List.length_append] at b16; omega⟩
  · rw [show w + (k2 + 1 + k) = w + k2 + 1 + k by omega, a1, n2, b1]
  · rw [eex, ← List.append_assoc, ← List.append_assoc]
    exact e2
  · refine YP.down (R0 := [opc]) (m := m) (op := op) ?_ ⟨o26, trivial⟩ hbs
    have : nots [opc] = 0 := by
      show (if opc = 43 then 1 else 0) + nots [] = 0
      rw [if_neg ho]
      rfl
    rw [this]
    exact b6
  · rw [show fl (R2 ++ [opc]) = fl R2 ++ [(opc, 0)] by simp [fl], ← List.append_assoc, b7]
    simp
  · intro o ho2
    rcases List.mem_append.mp ho2 with q | q
    · exact Nat.le_trans hr.2 (b8 o q)
    · rw [List.mem_singleton] at q
      rw [q]
      exact hr.1
  · rw [eex]
    simp only [List.length_append, List.length_cons, List.length_nil] at b10 ⊢
    omega
  · intro st hst
    rw [tyL_app, tyL_app, a12 st hst]
    show ((tyL δ2 (ta :: st)).bind (tyL [(opc, 0)])) = _
    rw [b12 (ta :: st) (by simp; omega)]
    show tyL [(opc, 0)] (tb :: ta :: st) = _
    rw [tyL_one]
    exact hty st
  · exact ((a14.tr n7.p).tr b14).tr xAd_FP
  · have := List.length_append (as := ly) (bs := δ)
    exact (a15.tr n6).tr (b15.wk (by omega) (by omega) (by omega))
theorem St.len {n0 L s qf b c0 dp m bs op pw rl r D : Nat} {t : Bool} {lx : List Int32} {ly : List (Int32 × Int32)} {MX MY MX' MY' : Mem} {s' k : Nat} {δ : List (Int32 × Int32)} {R : List Int32} {ly' : List (Int32 × Int32)} (h : En L s qf b c0 dp m bs op pw lx ly MX MY) (hS : St n0 L s qf b c0 dp m bs op pw lx ly MX MY rl r D t MX' MY' s' k δ R ly') : c0 + ly'.length + R.length + pw ≤ s' ∧ ly'.length + R.length = ly.length + δ.length ∧ ly.length + δ.length ≤ (lx ++ exL δ).length ∧ s' ≤ 1600 := by
  have h1 := congrArg List.length hS.2.2.2.2.2.2.1
  have h2 := exL_len (δ := δ)
  have h3 := h.2.2.2.2.2.2.2.2.2.1
  have h4 := hS.2.2.2.2.2.2.2.2.2.1
  have h5 := hS.2.2.2.1.2.1.2.2.1
  have h6 := hS.2.2.2.1.L16
  rw [List.length_append, List.length_append, show (fl R).length = R.length by simp [fl]] at h1
  rw [List.length_append] at h4 ⊢
  omega
end
section
/-! SUMS AND TESTS: from sign to sign on both sides -/
section STEPS
variable {n0 L s qf b c0 dp m bs op pw rl r D : Nat} {t : Bool} {lx : List Int32} {ly : List (Int32 × Int32)} {MX MY MXc MYc : Mem} {sc k : Nat} {δ : List (Int32 × Int32)} {R : List Int32} {lyc : List (Int32 × Int32)}
/-- what follows a sign that was taken: f changes the last frame's phase and begins, ahead, operand is wanted -/
theorem nxt {opc : Int32} {MYj : Mem} (f : Mem → Mem) (hn : 1601 ≤ n0) (h : En L s qf b c0 dp m bs op pw lx ly MX MY) (hS : St n0 L s qf b c0 dp m bs op pw lx ly MX MY rl r D t MXc MYc sc k δ R lyc) (hs : sc < L) (hj1 : YP b c0 dp m bs op [] (ly ++ δ) MYj) (hj2 : FP b (c0 + ly.length) dp m MYc MYj) (hjp : PR L sc MXc MYj) (ho : ¬ opc = 43) (hm : m < 399) (hf1 : ∀ M, PR L sc MXc M → PR L sc MXc (f M)) (hf2 : ∀ M, (∀ k, gI (f M) k = gI M k) ∧ (∀ a, a ≠ 22 → a ≠ 23 → gA (f M) a = gA M a) ∧ FP b (c0 + ly.length) dp m M (f M)) :
    ∃ MX1 MY1 s1 Ma, fX8_advance n0 MXc = some MX1 ∧ fX12_holdsBack n0 opc MYj = some (yPush MYj m opc) ∧ fX12_ahead n0 (f (yPush MYj m opc)) = some Ma ∧ MY1 = sI Ma 45 0 ∧ gI Ma 8 = 0 ∧ FrY (f (yPush MYj m opc)) Ma ∧ ((∀ w, YLp n0 (w + 1) MYc = YLp n0 w MY1) → Nx n0 L qf b c0 dp m bs op pw (lx ++ exL δ) (ly ++ δ) MXc MYc sc (c0 + ly.length) opc MX1 MY1 s1) := by
  obtain ⟨hlen1, hlen2, hlen3, hlen4⟩ := hS.len h
  obtain ⟨hP, h257, hq, hxl, hYP, h258, hdo, hmp, hcs, hll, h45⟩ := h
  obtain ⟨a1, a2, a3, a4, a5, a6, a7, a8, a9, a10, a11, a12, a13, a14, a15, a16⟩ := hS
  obtain ⟨p1, p2⟩ := hj1.push (n0 := n0) (o := opc) ho (by simp; omega)
  rw [show m + ([] : List Int32).length = m by simp] at p1 p2
  have hpp : PR L sc MXc (f (yPush MYj m opc)) := hf1 _ hjp.push
  obtain ⟨MX1, Ma, s1, ax, ay, hs1, hP1, fx, fy⟩ := hpp.adv hn hs
  have fY := fy.Y
  obtain ⟨g1, g2, g3⟩ := hf2 (yPush MYj m opc)
  have hFP : FP b (c0 + ly.length) dp m MYc (sI Ma 45 0) := (((hj2.tr (yPush_FP (Nat.le_refl m))).tr g3).tr fY.p).i (by unfold pInt; omega)
  refine ⟨MX1, sI Ma 45 0, s1, Ma, ax, p1, ay, rfl, hP1.f8, fY, fun hw => ⟨ax, hw, hs1, ⟨hP1.in_ (by decide), ?_, hq, ?_, ?_, ⟨?_, ?_⟩, hdo, by omega, ?_, ?_, gI_at⟩, ?_, hFP, fx.wk (by decide) (by decide)⟩⟩
  · rw [fx.R, a14.2.2]; exact h257
  · exact a5.fi (fx.wk (by decide) (by decide)) hq
  · have hup : YP b c0 dp (m + 1) bs op [] (ly ++ δ) (yPush MYj m opc) := by
      have := p2.up
      have e : nots [opc] = 0 := by
        show (if opc = 43 then 1 else 0) + nots [] = 0
        rw [if_neg ho]
        rfl
      rw [e] at this
      exact this
    have h2 : YP b c0 dp (m + 1) bs op [] (ly ++ δ) (f (yPush MYj m opc)) := hup.cong (fun k _ => g1 k) (fun a ha => g2 a (by omega) (by omega))
    exact (h2.tok fY).cong (fun k hk => gI_ne (by omega)) (fun a _ => rfl)
  · rw [fx.2 258 (by omega), a14.1 258 (by omega), h258.1]
    rw [hFP.1 35 (by unfold pInt; omega), a15.1 35 (by unfold pInt; omega)]
  · rw [fx.2 258 (by omega), a14.1 258 (by omega)]
    exact h258.2
  · omega
  · rw [List.length_append]; exact hlen3
  · show gA Ma 26 m = _
    rw [fY.2.1 26 id, g2 26 (by decide) (by decide)]
    unfold yPush
    show gA (sA MYj 26 m opc) 26 m = _
    rw [gA_sA, if_pos rfl, if_pos rfl]
def opOf (k : Int32) : Int32 := if k = 43 then 31 else if k = 45 then 32 else if k = 42 then 33 else if k = 47 then 34 else 35
theorem nxA {least : Nat} (hn : 1601 ≤ n0) (h : En L s qf b c0 dp m bs op pw lx ly MX MY) (hS : St n0 L s qf b c0 dp m bs op pw lx ly MX MY rl r D t MXc MYc sc k δ R lyc) (hk : ari (gI MXc 386)) (hl : least = if gI MXc 386 = 43 ∨ gI MXc 386 = 45 then 5 else 6) (hlr : least ≤ r) (hph : ¬ (2 : Int32) ≤ gA MYc 22 (dp - 1)) (hm : m < 399) (hoc : m = bs ∨ rkI (gA MY 26 (m - 1)) < least) (hmb : 1 ≤ m ∨ m = bs) :
    ∃ MX1 MY1 s1, Nx n0 L qf b c0 dp m bs op pw (lx ++ exL δ) (ly ++ δ) MXc MYc sc (c0 + ly.length) (opOf (gI MXc 386)) MX1 MY1 s1 ∧ gA MY1 22 (dp - 1) = gA MYc 22 (dp - 1) ∧ gA MY1 23 (dp - 1) = gA MYc 23 (dp - 1) := by
  have hh := h
  have hSS := hS
  obtain ⟨hlen1, hlen2, hlen3, hlen4⟩ := hS.len h
  obtain ⟨hP, h257, hq, hxl, hYP, h258, hdo, hmp, hcs, hll, h45⟩ := h
  obtain ⟨a1, a2, a3, a4, a5, a6, a7, a8, a9, a10, a11, a12, a13, a14, a15, a16⟩ := hS
  have nb : ¬ gI MXc 386 = 259 := by rcases hk with e | e | e | e | e <;> rw [e] <;> decide
  have hs := a4.2.1.2.2.2.2.lt nb
  have hl6 : least ≤ 6 := by rw [hl]; split <;> omega
  obtain ⟨Mj, ej, yj, fj⟩ := a6.join (n0 := n0) (least := least) hn (fun o ho => Nat.le_trans hlr (a8 o ho)) (by
    rcases hoc with q | q
    · exact Or.inl q
    · by_cases g : m = bs
      · exact Or.inl g
      · right
        rw [a15.2.1 26 (m - 1) (by unfold pReg; omega)]
        exact q) (by omega) hl6
  rw [a7] at yj
  have hbsm := hYP.2.2.2.2.2.1
  have ho : ¬ opOf (gI MXc 386) = 43 := by unfold opOf; rcases hk with e | e | e | e | e <;> rw [e] <;> decide
  obtain ⟨MX1, MY1, s1, Ma, q1, q2, q3, q4, q5, q6, q7⟩ := nxt (opc := opOf (gI MXc 386)) (fun M => M) hn hh hSS hs yj ((fj.p).wk (by omega) (Nat.le_refl _) (Nat.le_refl _)) (a4.jn fj) ho hm (fun M h => h) (fun M => ⟨fun _ => rfl, fun _ _ _ => rfl, FP.r⟩)
  have pj := a4.jn fj
  have hgo : fX12_goesOn n0 MYc = some (1, MY1) := by
    rw [ygoA a4 hk a6.2.2.1 a6.2.2.2.1 hph]
    have e112 : (if gI MXc 386 = 43 ∨ gI MXc 386 = 45 then (5 : Int32) else 6) = nI least := by
      rw [hl]
      split <;> rfl
    rw [e112]
    have e174 : ∀ o, o = opOf (gI MXc 386) → fX12_goesOn_174 n0 o Mj = some (1, MY1) := fun o eo => by
      subst eo
      unfold fX12_goesOn_174
      exact eq_b q2 (eq_b q3 (eq_n (by rw [q4])))
    unfold fX12_goesOn_112
    refine eq_b ej (eq_b (ySign (by decide) pj) ?_)
    unfold opOf at e174
    by_cases g1 : gI MXc 386 = 43
    · exact eq_f (bz g1) (e174 _ (by rw [if_pos g1]))
    refine eq_t (bI_f g1) (eq_b (ySign (by decide) pj) ?_)
    by_cases g2 : gI MXc 386 = 45
    · exact eq_f (bz g2) (e174 _ (by rw [if_neg g1, if_pos g2]))
    refine eq_t (bI_f g2) (eq_b (ySign (by decide) pj) ?_)
    by_cases g3 : gI MXc 386 = 42
    · exact eq_f (bz g3) (e174 _ (by rw [if_neg g1, if_neg g2, if_pos g3]))
    refine eq_t (bI_f g3) (eq_b (ySign (by decide) pj) ?_)
    by_cases g4 : gI MXc 386 = 47
    · exact eq_f (bz g4) (e174 _ (by rw [if_neg g1, if_neg g2, if_neg g3, if_pos g4]))
    exact eq_t (bI_f g4) (e174 _ (by rw [if_neg g1, if_neg g2, if_neg g3, if_neg g4]))
  have m8 : gI MY1 8 = 0 := by rw [q4, gI_ne (by decide)]; exact q5
  have keep : ∀ a, a = 22 ∨ a = 23 → gA MY1 a (dp - 1) = gA MYc a (dp - 1) := fun a ha => by
    rw [q4]
    show gA Ma a (dp - 1) = _
    rw [q6.2.1 a id]
    unfold yPush
    show gA (sA Mj 26 m _) a (dp - 1) = _
    rw [gA_sA_ne (by omega), fj.2.1 a _ (by omega)]
  exact ⟨MX1, MY1, s1, q7 (fun w => ylgo (by rw [a11]; decide) hgo m8), keep 22 (Or.inl rfl), keep 23 (Or.inr rfl)⟩
def cmOf (k : Int32) : Int32 := if k = 60 then 38 else if k = 62 then 39 else 40
theorem nxC (hn : 1601 ≤ n0) (h : En L s qf b c0 dp m bs op pw lx ly MX MY) (hS : St n0 L s qf b c0 dp m bs op pw lx ly MX MY rl r D t MXc MYc sc k δ R lyc) (hk : gI MXc 386 = 60 ∨ gI MXc 386 = 62 ∨ gI MXc 386 = 61) (hlr : 5 ≤ r) (hT : isT (gA MYc 21 (dp - 1))) (hph : gA MYc 22 (dp - 1) = 0) (hm : m < 399) (hoc : m = bs ∨ rkI (gA MY 26 (m - 1)) < 5) :
    ∃ MX1 MY1 s1, Nx n0 L qf b c0 dp m bs op pw (lx ++ exL δ) (ly ++ δ) MXc MYc sc (c0 + ly.length) (cmOf (gI MXc 386)) MX1 MY1 s1 ∧ gA MY1 22 (dp - 1) = 1 ∧ gA MY1 23 (dp - 1) = gA MYc 23 (dp - 1) := by
  have hh := h
  have hSS := hS
  obtain ⟨hlen1, hlen2, hlen3, hlen4⟩ := hS.len h
  obtain ⟨hP, h257, hq, hxl, hYP, h258, hdo, hmp, hcs, hll, h45⟩ := h
  obtain ⟨a1, a2, a3, a4, a5, a6, a7, a8, a9, a10, a11, a12, a13, a14, a15, a16⟩ := hS
  have nb : ¬ gI MXc 386 = 259 := by rcases hk with e | e | e <;> rw [e] <;> decide
  have nb2 : ¬ gI MXc 386 = 258 := by rcases hk with e | e | e <;> rw [e] <;> decide
  have na : ¬ ari (gI MXc 386) := by rcases hk with e | e | e <;> rw [e] <;> decide
  have hs := a4.2.1.2.2.2.2.lt nb
  obtain ⟨Mj, ej, yj, fj⟩ := a6.join (n0 := n0) (least := 5) hn (fun o ho => Nat.le_trans hlr (a8 o ho)) (by
    rcases hoc with q | q
    · exact Or.inl q
    · by_cases g : m = bs
      · exact Or.inl g
      · right
        have := hYP.2.2.2.2.2.1
        rw [a15.2.1 26 (m - 1) (by unfold pReg; omega)]
        exact q) (by omega) (by decide)
  rw [a7] at yj
  have hdp := a6.2.2.2.1
  have ho : ¬ cmOf (gI MXc 386) = 43 := by unfold cmOf; rcases hk with e | e | e <;> rw [e] <;> decide
  obtain ⟨MX1, MY1, s1, Ma, q1, q2, q3, q4, q5, q6, q7⟩ := nxt (opc := cmOf (gI MXc 386)) (fun M => sA M 22 (dp - 1) 1) hn hh hSS hs yj ((fj.p).wk (by omega) (Nat.le_refl _) (Nat.le_refl _)) (a4.jn fj) ho hm (fun M h => h.ar (by decide)) (fun M => ⟨fun _ => rfl, fun a h1 _ => gA_sA_ne h1, FP.r.a (by unfold pReg; omega)⟩)
  have pj := a4.jn fj
  have hcl : (nI (dp - 1)).toNatClampNeg = dp - 1 := nI_clamp (by omega)
  have o : ¬ oob (nI (dp - 1)) 20 := nI_in (by omega) (by decide)
  have hgo : fX12_goesOn n0 MYc = some (1, MY1) := by
    rw [ygo188 a4 nb2 (Or.inl na) a6.2.2.1 hdp]
    have e264 : ∀ o', o' = cmOf (gI MXc 386) → fX12_goesOn_264 n0 (nI (dp - 1)) o' Mj = some (1, MY1) := fun o' eo => by
      subst eo
      unfold fX12_goesOn_264
      simp only [hcl]
      exact eq_b q2 (eq_f o (eq_n (eq_b q3 (eq_n (by rw [q4])))))
    have e228 : fX12_goesOn_228 n0 (nI (dp - 1)) MYc = some (1, MY1) := by
      unfold fX12_goesOn_228
      refine eq_b ej (eq_b (ySign (by decide) pj) ?_)
      unfold cmOf at e264
      by_cases g1 : gI MXc 386 = 60
      · exact eq_f (bz g1) (e264 _ (by rw [if_pos g1]))
      refine eq_t (bI_f g1) (eq_b (ySign (by decide) pj) ?_)
      by_cases g2 : gI MXc 386 = 62
      · exact eq_f (bz g2) (e264 _ (by rw [if_neg g1, if_pos g2]))
      exact eq_t (bI_f g2) (e264 _ (by rw [if_neg g1, if_neg g2]))
    unfold fX12_goesOn_188
    simp only [hcl]
    refine eq_f (bz hT) (eq_f o (eq_t hph (eq_b (ySign (by decide) a4) ?_)))
    by_cases g1 : gI MXc 386 = 60
    · exact eq_f (bz g1) e228
    refine eq_t (bI_f g1) (eq_b (ySign (by decide) a4) ?_)
    by_cases g2 : gI MXc 386 = 62
    · exact eq_f (bz g2) e228
    refine eq_t (bI_f g2) (eq_b (ySign (by decide) a4) ?_)
    have g3 : gI MXc 386 = 61 := by
      rcases hk with q | q | q
      · exact absurd q g1
      · exact absurd q g2
      · exact q
    exact eq_f (bz g3) e228
  have m8 : gI MY1 8 = 0 := by rw [q4, gI_ne (by decide)]; exact q5
  refine ⟨MX1, MY1, s1, q7 (fun w => ylgo (by rw [a11]; decide) hgo m8), ?_, ?_⟩
  · rw [q4]
    show gA Ma 22 (dp - 1) = _
    rw [q6.2.1 22 id, gA_sA, if_pos rfl, if_pos rfl]
  · rw [q4]
    show gA Ma 23 (dp - 1) = _
    rw [q6.2.1 23 id, gA_sA_ne (by decide)]
    unfold yPush
    show gA (sA Mj 26 m _) 23 (dp - 1) = _
    rw [gA_sA_ne (by decide), fj.2.1 23 _ (by omega)]
/-- and, or -/
theorem nxL {least : Nat} (hn : 1601 ≤ n0) (h : En L s qf b c0 dp m bs op pw lx ly MX MY) (hS : St n0 L s qf b c0 dp m bs op pw lx ly MX MY rl r D t MXc MYc sc k δ R lyc) (hk : gI MXc 386 = 280 ∨ gI MXc 386 = 279) (hl : least = if gI MXc 386 = 280 then 2 else 1) (hlr : least ≤ r) (hT : isT (gA MYc 21 (dp - 1))) (hph : ¬ gA MYc 22 (dp - 1) = 0) (hm : m < 399) (hoc : m = bs ∨ rkI (gA MY 26 (m - 1)) < least) :
    ∃ MX1 MY1 s1, Nx n0 L qf b c0 dp m bs op pw (lx ++ exL δ) (ly ++ δ) MXc MYc sc (c0 + ly.length) (if gI MXc 386 = 280 then 41 else 42) MX1 MY1 s1 ∧ gA MY1 22 (dp - 1) = 0 ∧ gA MY1 23 (dp - 1) = 1 := by
  have hh := h
  have hSS := hS
  obtain ⟨hlen1, hlen2, hlen3, hlen4⟩ := hS.len h
  obtain ⟨hP, h257, hq, hxl, hYP, h258, hdo, hmp, hcs, hll, h45⟩ := h
  obtain ⟨a1, a2, a3, a4, a5, a6, a7, a8, a9, a10, a11, a12, a13, a14, a15, a16⟩ := hS
  have nb : ¬ gI MXc 386 = 259 := by rcases hk with e | e <;> rw [e] <;> decide
  have nb2 : ¬ gI MXc 386 = 258 := by rcases hk with e | e <;> rw [e] <;> decide
  have na : ¬ ari (gI MXc 386) := by rcases hk with e | e <;> rw [e] <;> decide
  have hs := a4.2.1.2.2.2.2.lt nb
  have hl6 : least ≤ 6 := by rw [hl]; split <;> omega
  obtain ⟨Mj, ej, yj, fj⟩ := a6.join (n0 := n0) (least := least) hn (fun o ho => Nat.le_trans hlr (a8 o ho)) (by
    rcases hoc with q | q
    · exact Or.inl q
    · by_cases g : m = bs
      · exact Or.inl g
      · right
        have := hYP.2.2.2.2.2.1
        rw [a15.2.1 26 (m - 1) (by unfold pReg; omega)]
        exact q) (by omega) hl6
  rw [a7] at yj
  have hdp := a6.2.2.2.1
  have e8 : gI MYc 8 ≤ 0 := by rw [a4.f8]; exact i00
  have ho : ¬ (if gI MXc 386 = 280 then (41 : Int32) else 42) = 43 := by split <;> decide
  obtain ⟨MX1, MY1, s1, Ma, q1, q2, q3, q4, q5, q6, q7⟩ := nxt (opc := if gI MXc 386 = 280 then 41 else 42) (fun M => sA (sA M 22 (dp - 1) 0) 23 (dp - 1) 1) hn hh hSS hs yj ((fj.p).wk (by omega) (Nat.le_refl _) (Nat.le_refl _)) (a4.jn fj) ho hm (fun M h => (h.ar (by decide)).ar (by decide)) (fun M => ⟨fun _ => rfl, fun a h1 h2 => by rw [gA_sA_ne h2, gA_sA_ne h1], (FP.r.a (by unfold pReg; omega)).a (by unfold pReg; omega)⟩)
  have hcl : (nI (dp - 1)).toNatClampNeg = dp - 1 := nI_clamp (by omega)
  have o : ¬ oob (nI (dp - 1)) 20 := nI_in (by omega) (by decide)
  have w1 : fX12_isWord n0 6385252 MYc = some (bI (gI MXc 386 = 280), MYc) := yWord (i := 20) (by decide) (by decide) (by decide) a4 nb2
  have w2 : fX12_isWord n0 28530 MYc = some (bI (gI MXc 386 = 279), MYc) := yWord (i := 19) (by decide) (by decide) (by decide) a4 nb2
  have hgo : fX12_goesOn n0 MYc = some (1, MY1) := by
    rw [ygo188 a4 nb2 (Or.inl na) a6.2.2.1 hdp]
    have e372 : ∀ o', o' = (if gI MXc 386 = 280 then (41 : Int32) else 42) → fX12_goesOn_372 n0 (nI (dp - 1)) o' Mj = some (1, MY1) := fun o' eo => by
      subst eo
      unfold fX12_goesOn_372
      simp only [hcl]
      exact eq_b q2 (eq_f o (eq_n (eq_f o (eq_n (eq_b q3 (eq_n (by rw [q4])))))))
    have e309 : fX12_goesOn_309 n0 (nI (dp - 1)) MYc = some (1, MY1) := by
      unfold fX12_goesOn_309 fX12_goesOn_327 fX12_goesOn_356
      simp only [hcl]
      refine eq_f o (eq_f hph (eq_t e8 (eq_b w1 ?_)))
      by_cases g : gI MXc 386 = 280
      · rw [if_pos g] at hl
        subst hl
        exact eq_f (bz g) (eq_b ej (eq_f (bz g) (e372 _ (by rw [if_pos g]))))
      · rw [if_neg g] at hl
        subst hl
        exact eq_t (bI_f g) (eq_b ej (eq_t (bI_f g) (e372 _ (by rw [if_neg g]))))
    have e285 : fX12_goesOn_285 n0 (nI (dp - 1)) (gA MYc 21 (dp - 1)) (bI (isT (gA MYc 21 (dp - 1)))) MYc = some (1, MY1) := by
      unfold fX12_goesOn_285
      refine eq_f (bz hT) (eq_b w1 ?_)
      by_cases g : gI MXc 386 = 280
      · exact eq_f (bz g) e309
      · have g2 : gI MXc 386 = 279 := by
          rcases hk with q | q
          · exact absurd q g
          · exact q
        exact eq_t (bI_f g) (eq_b w2 (eq_f (bz g2) e309))
    unfold fX12_goesOn_188
    simp only [hcl]
    exact eq_f (bz hT) (eq_f o (eq_f hph e285))
  have m8 : gI MY1 8 = 0 := by rw [q4, gI_ne (by decide)]; exact q5
  refine ⟨MX1, MY1, s1, q7 (fun w => ylgo (by rw [a11]; decide) hgo m8), ?_, ?_⟩
  · rw [q4]
    show gA Ma 22 (dp - 1) = _
    rw [q6.2.1 22 id, gA_sA_ne (by decide), gA_sA, if_pos rfl, if_pos rfl]
  · rw [q4]
    show gA Ma 23 (dp - 1) = _
    rw [q6.2.1 23 id, gA_sA, if_pos rfl, if_pos rfl]
end STEPS
end
section
/-! SUMS AND TESTS: brackets on both sides -/
section BR
variable {n0 L s dp : Nat} {MX MY : Mem}
theorem ygo422 (h : PR L s MX MY) (hb : ¬ gI MX 386 = 258) (hk : ¬ ari (gI MX 386) ∨ (2 : Int32) ≤ gA MY 22 (dp - 1)) (hT : ¬ isT (gA MY 21 (dp - 1)) ∨ (¬ gA MY 22 (dp - 1) = 0 ∧ ¬ gI MX 386 = 280 ∧ ¬ gI MX 386 = 279)) (h41 : gI MY 41 = nI dp) (hdp : 1 ≤ dp ∧ dp ≤ 9) : fX12_goesOn n0 MY = fX12_goesOn_422 n0 (nI (dp - 1)) (gA MY 21 (dp - 1)) MY := by
  have hcl : (nI (dp - 1)).toNatClampNeg = dp - 1 := nI_clamp (by omega)
  have o : ¬ oob (nI (dp - 1)) 20 := nI_in (by omega) (by decide)
  rw [ygo188 h hb hk h41 hdp]
  unfold fX12_goesOn_188 fX12_goesOn_285 fX12_goesOn_400
  simp only [hcl]
  by_cases g : isT (gA MY 21 (dp - 1))
  · have q : ¬ gA MY 22 (dp - 1) = 0 ∧ ¬ gI MX 386 = 280 ∧ ¬ gI MX 386 = 279 := by
      rcases hT with q | q
      · exact absurd g q
      · exact q
    exact eq_f (bz g) (eq_f o (eq_f q.1 (eq_f (bz g) (eq_b (yWord (i := 20) (kk := 280) (by decide) (by decide) (by decide) h hb) (eq_t (bI_f q.2.1) (eq_b (yWord (i := 19) (kk := 279) (by decide) (by decide) (by decide) h hb) (eq_t (bI_f q.2.2) (eq_f (bz g) (eq_f o (eq_f q.1 rfl))))))))))
  · exact eq_t (bI_f g) (eq_t (bI_f g) (eq_t (bI_f g) rfl))
theorem y452F {x1 x2 : Int32} {M : Mem} (h : ¬ gI M 8 ≤ 0) : fX12_goesOn_452 n0 x1 x2 M = some (0, M) := by
  unfold fX12_goesOn_452 fX12_goesOn_470
  rcases ySign2 (n0 := n0) (c := 44) (M := M) with q | q
  · exact eq_b q (eq_t rfl (eq_b (yblame1 h) (eq_f h rfl)))
  · exact eq_b q (eq_f i10 (eq_f h rfl))
theorem y531F {x1 x2 c : Int32} {M : Mem} (h : ¬ gI M 8 ≤ 0) : fX12_goesOn_531 n0 x1 x2 c M = some (0, M) := by
  unfold fX12_goesOn_531 fX12_goesOn_546
  rcases ySign2 (n0 := n0) (c := c) (M := M) with q | q
  · exact eq_b q (eq_t rfl (eq_b (yblame1 h) (eq_f h rfl)))
  · exact eq_b q (eq_f i10 (eq_f h rfl))
theorem y422F {x1 x2 : Int32} {M : Mem} (h : ¬ gI M 8 ≤ 0) : fX12_goesOn_422 n0 x1 x2 M = some (0, M) := by
  unfold fX12_goesOn_422
  by_cases g : (2 : Int32) ≤ x2
  · refine eq_t g ?_
    by_cases g3 : x2 = 3
    · exact eq_t g3 (y452F h)
    refine eq_f g3 ?_
    by_cases g6 : x2 = 6
    · exact eq_t g6 (y452F h)
    refine eq_f g6 ?_
    by_cases g5 : x2 = 5
    · exact eq_t g5 (y531F h)
    · exact eq_f g5 (y531F h)
  · exact eq_f g (eq_f (pos_ne h) rfl)
/-- a test that was not compared, and no sign that compares -/
theorem ygoT0 (h : PR L s MX MY) (hb : ¬ gI MX 386 = 258) (hk : ¬ ari (gI MX 386)) (hc : ¬ gI MX 386 = 60 ∧ ¬ gI MX 386 = 62 ∧ ¬ gI MX 386 = 61) (hT : isT (gA MY 21 (dp - 1))) (hph : gA MY 22 (dp - 1) = 0) (h41 : gI MY 41 = nI dp) (hdp : 1 ≤ dp ∧ dp ≤ 9) : fX12_goesOn n0 MY = some (0, sI (sI MY 8 1) 9 (nI s)) := by
  have hcl : (nI (dp - 1)).toNatClampNeg = dp - 1 := nI_clamp (by omega)
  have o : ¬ oob (nI (dp - 1)) 20 := nI_in (by omega) (by decide)
  have n1 : ¬ gI (sI (sI MY 8 1) 9 (nI s)) 8 ≤ 0 := n8f (k := 1) (by decide) (by decide)
  have yb : fX12_blame n0 1 (gI MY 4) MY = some (sI (sI MY 8 1) 9 (nI s)) := by rw [h.at_]; exact yblame0 h.f8
  have e309 : fX12_goesOn_309 n0 (nI (dp - 1)) MY = some (0, sI (sI MY 8 1) 9 (nI s)) := by
    unfold fX12_goesOn_309 fX12_goesOn_327
    simp only [hcl]
    exact eq_f o (eq_t hph (eq_b yb (eq_f n1 rfl)))
  have w1 : fX12_isWord n0 6385252 MY = some (bI (gI MX 386 = 280), MY) := yWord (i := 20) (by decide) (by decide) (by decide) h hb
  have w2 : fX12_isWord n0 28530 MY = some (bI (gI MX 386 = 279), MY) := yWord (i := 19) (by decide) (by decide) (by decide) h hb
  rw [ygo188 h hb (Or.inl hk) h41 hdp]
  unfold fX12_goesOn_188 fX12_goesOn_285 fX12_goesOn_400
  simp only [hcl]
  refine eq_f (bz hT) (eq_f o (eq_t hph (eq_b (ySign (by decide) h) (eq_t (bI_f hc.1) (eq_b (ySign (by decide) h) (eq_t (bI_f hc.2.1) (eq_b (ySign (by decide) h) (eq_t (bI_f hc.2.2) (eq_f (bz hT) (eq_b w1 ?_))))))))))
  by_cases g1 : gI MX 386 = 280
  · exact eq_f (bz g1) e309
  refine eq_t (bI_f g1) (eq_b w2 ?_)
  by_cases g2 : gI MX 386 = 279
  · exact eq_f (bz g2) e309
  exact eq_t (bI_f g2) (eq_f (bz hT) (eq_f o (eq_t hph (eq_b yb (y422F n1)))))
/-- the sign that must end a frame of this kind -/
def endOf (k : Int32) : Int32 := if k = 3 ∨ k = 6 then 44 else if k = 5 then 93 else 41
theorem endOf_b (k : Int32) : (0 : Int32) ≤ endOf k ∧ endOf k ≤ 255 := by
  unfold endOf
  repeat' split
  all_goals decide
theorem ygoEnd {x1 kf : Int32} (h : PR L s MX MY) (hk : ¬ gI MX 386 = endOf kf) (hkf : (2 : Int32) ≤ kf) (hb : ¬ gI MX 386 = 258) : fX12_goesOn_422 n0 x1 kf MY = some (0, sI (sI MY 8 1) 9 (nI s)) := by
  have n1 : ¬ gI (sI (sI MY 8 1) 9 (nI s)) 8 ≤ 0 := n8f (k := 1) (by decide) (by decide)
  have yb : fX12_blame n0 1 (gI MY 4) MY = some (sI (sI MY 8 1) 9 (nI s)) := by rw [h.at_]; exact yblame0 h.f8
  unfold fX12_goesOn_422
  refine eq_t hkf ?_
  unfold endOf at hk
  by_cases g3 : kf = 3
  · rw [if_pos (Or.inl g3)] at hk
    unfold fX12_goesOn_452 fX12_goesOn_470
    exact eq_t g3 (eq_b (ySign (by decide) h) (eq_t (bI_f hk) (eq_b yb (eq_f n1 rfl))))
  refine eq_f g3 ?_
  by_cases g6 : kf = 6
  · rw [if_pos (Or.inr g6)] at hk
    unfold fX12_goesOn_452 fX12_goesOn_470
    exact eq_t g6 (eq_b (ySign (by decide) h) (eq_t (bI_f hk) (eq_b yb (eq_f n1 rfl))))
  have n36 : ¬ (kf = 3 ∨ kf = 6) := by rintro (q | q) <;> contradiction
  rw [if_neg n36] at hk
  refine eq_f g6 ?_
  unfold fX12_goesOn_531 fX12_goesOn_546
  by_cases g5 : kf = 5
  · rw [if_pos g5] at hk
    exact eq_t g5 (eq_b (ySign (by decide) h) (eq_t (bI_f hk) (eq_b yb (eq_f n1 rfl))))
  · rw [if_neg g5] at hk
    exact eq_f g5 (eq_b (ySign (by decide) h) (eq_t (bI_f hk) (eq_b yb (eq_f n1 rfl))))
end BR
section OP
variable {n0 L s b c0 dp m bs op : Nat} {ly : List (Int32 × Int32)} {MX M : Mem}
theorem opF {kk : Int32} (h : PR L s MX M) (h42 : gI M 42 = 7) : fX12_opens n0 kk M = some (sI (sI M 8 5) 9 (nI s)) := by
  unfold fX12_opens fX12_opens_18
  rw [h.at_]
  exact eq_t h42 (eq_b (yblame0 h.f8) (eq_f (n8f (k := 5) (by decide) (by decide)) rfl))
theorem opP {kk : Int32} (hn : 1601 ≤ n0) (hP : PR L s MX M) (hs : s < L) (hY : YP b c0 dp m bs op [] ly M) (h7 : op < 7) (hdo : dp ≤ op + 1) : ∃ MX' M' s', fX8_advance n0 MX = some MX' ∧ fX12_opens n0 kk M = some M' ∧ s < s' ∧ PR L s' MX' M' ∧ YP b c0 (dp + 1) m m (op + 1) [] ly M' ∧ gA M' 21 dp = kk ∧ gA M' 22 dp = 0 ∧ gA M' 23 dp = 1 ∧ FI 386 392 MX MX' ∧ FP b (c0 + ly.length) dp m M M' ∧ gA M' 22 (dp - 1) = gA M 22 (dp - 1) ∧ gA M' 23 (dp - 1) = gA M 23 (dp - 1) := by
  obtain ⟨h1, h2, h3, h4, h5, h6, h7', h8, h9, h10, h11, h12, h13⟩ := hY
  have e42 : gI M 42 = nI op := h12
  have hP1 : PR L s MX (sI M 42 (nI (op + 1))) := hP.in_ (by decide)
  obtain ⟨MX', Ma, s', ax, ay, hs', hP', fx, fy⟩ := hP1.adv hn hs
  have fY := fy.Y
  have m41 : gI Ma 41 = nI dp := (fY.1 41 (by omega)).trans h3
  have m44 : gI Ma 44 = nI m := (fY.1 44 (by omega)).trans h7'
  have o : ¬ oob (gI Ma 41) 20 := by rw [m41]; exact nI_in (by omega) (by decide)
  have c41 : (gI Ma 41).toNatClampNeg = dp := by rw [m41, nI_clamp (by omega)]
  have epush : fX12_pushes n0 kk Ma = some (sI (sA (sA (sA (sA Ma 21 dp kk) 22 dp 0) 23 dp 1) 25 dp (nI m)) 41 (nI (dp + 1))) := by
    unfold fX12_pushes
    refine eq_f o (eq_n (eq_f o (eq_n (eq_f o (eq_n (eq_f o (eq_n ?_)))))))
    simp only [gI_sA, c41]
    rw [m41, m44, nI_1]
  refine ⟨MX', sI (sA (sA (sA (sA Ma 21 dp kk) 22 dp 0) 23 dp 1) 25 dp (nI m)) 41 (nI (dp + 1)), s', ax, ?_, hs', ?_, ?_, ?_, ?_, ?_, fx.wk (by decide) (by decide), ?_, ?_, ?_⟩
  · unfold fX12_opens fX12_opens_18
    have n7 : ¬ gI M 42 = 7 := by rw [e42]; exact fun q => by have := (nI_eq (a := op) (b := 7) (by omega) (by decide)).mp q; omega
    refine eq_f n7 (eq_t (by rw [hP.f8]; exact i00) (eq_n ?_))
    rw [e42, nI_1]
    exact eq_b ay (eq_b epush rfl)
  · exact ((((hP'.ar (by decide)).ar (by decide)).ar (by decide)).ar (by decide)).in_ (by decide)
  · refine ⟨?_, h2, gI_at, ⟨by omega, by omega⟩, ?_, Nat.le_refl m, ?_, trivial, h9, ?_, ?_, ?_, ?_⟩
    · rw [gI_ne (by decide)]; exact (fY.1 34 (by omega)).trans h1
    · rw [Nat.add_sub_cancel]
      show gA (sA (sA (sA (sA Ma 21 dp kk) 22 dp 0) 23 dp 1) 25 dp (nI m)) 25 dp = _
      rw [gA_sA, if_pos rfl, if_pos rfl]
    · rw [gI_ne (by decide)]; exact m44
    · rw [gI_ne (by decide)]; exact (fY.1 33 (by omega)).trans h10
    · refine h11.cong (fun i _ => ⟨?_, ?_⟩)
      · show gA (sA (sA (sA (sA Ma 21 dp kk) 22 dp 0) 23 dp 1) 25 dp (nI m)) 16 _ = _
        rw [gA_sA_ne (by decide), gA_sA_ne (by decide), gA_sA_ne (by decide), gA_sA_ne (by decide), fY.2.1 16 id]
        rfl
      · show gA (sA (sA (sA (sA Ma 21 dp kk) 22 dp 0) 23 dp 1) 25 dp (nI m)) 17 _ = _
        rw [gA_sA_ne (by decide), gA_sA_ne (by decide), gA_sA_ne (by decide), gA_sA_ne (by decide), fY.2.1 17 id]
        rfl
    · rw [gI_ne (by decide)]
      show gI Ma 42 = nI (op + 1)
      rw [fY.1 42 (by omega), gI_at]
    · have : nots [] = 0 := rfl
      omega
  · show gA (sA (sA (sA (sA Ma 21 dp kk) 22 dp 0) 23 dp 1) 25 dp (nI m)) 21 dp = _
    rw [gA_sA_ne (by decide), gA_sA_ne (by decide), gA_sA_ne (by decide), gA_sA, if_pos rfl, if_pos rfl]
  · show gA (sA (sA (sA (sA Ma 21 dp kk) 22 dp 0) 23 dp 1) 25 dp (nI m)) 22 dp = _
    rw [gA_sA_ne (by decide), gA_sA_ne (by decide), gA_sA, if_pos rfl, if_pos rfl]
  · show gA (sA (sA (sA (sA Ma 21 dp kk) 22 dp 0) 23 dp 1) 25 dp (nI m)) 23 dp = _
    rw [gA_sA_ne (by decide), gA_sA, if_pos rfl, if_pos rfl]
  · refine ((((((FP.r.i (k := 42) (by unfold pInt; omega)).tr fY.p).a ?_).a ?_).a ?_).a ?_).i (by unfold pInt; omega) <;> (unfold pReg; omega)
  · show gA (sA (sA (sA (sA Ma 21 dp kk) 22 dp 0) 23 dp 1) 25 dp (nI m)) 22 (dp - 1) = _
    rw [gA_sA_ne (by decide), gA_sA_ne (by decide), gA_sA, if_pos rfl, if_neg (by omega), gA_sA_ne (by decide), fY.2.1 22 id]
    rfl
  · show gA (sA (sA (sA (sA Ma 21 dp kk) 22 dp 0) 23 dp 1) 25 dp (nI m)) 23 (dp - 1) = _
    rw [gA_sA_ne (by decide), gA_sA, if_pos rfl, if_neg (by omega), gA_sA_ne (by decide), gA_sA_ne (by decide), fY.2.1 23 id]
    rfl
end OP
section CL
variable {n0 L s b c0 dp m bs op : Nat} {ly : List (Int32 × Int32)} {R : List Int32} {MX M : Mem}
/-- the end of a frame: what waits is joined, the frame goes -/
theorem cl546 {x2 : Int32} (hn : 1601 ≤ n0) (hP : PR L s MX M) (hY : YP b c0 (dp + 1) m m (op + 1) R ly M) (hR : ∀ o ∈ R, 1 ≤ rkI o) (hc : c0 + ly.length + R.length ≤ 1600) (hdp : 1 ≤ dp) (hbs : gA M 25 (dp - 1) = nI bs) (hb : bs ≤ m) :
    ∃ Mj, PR L s MX Mj ∧ YP b c0 dp m bs op [] (ly ++ fl R) Mj ∧ (∀ a i, a ≠ 16 → a ≠ 17 → gA Mj a i = gA M a i) ∧ gI Mj 45 = gI M 45 ∧ FP b (c0 + ly.length) dp m M Mj ∧
      fX12_goesOn_546 n0 (nI dp) x2 M = (if x2 = (4 : Int32) then (if oob (nI dp) 20 then none else (fX12_add n0 (gA Mj 24 dp) 0 Mj).bind fun z593 => fX12_goesOn_596 n0 x2 z593) else fX12_goesOn_596 n0 x2 Mj) := by
  obtain ⟨Mj, ej, yj, fj⟩ := hY.join (n0 := n0) (least := 1) hn hR (Or.inl rfl) hc (by decide)
  have hP1 := hP.jn fj
  obtain ⟨h1, h2, h3, h4, h5, h6, h7', h8, h9, h10, h11, h12, h13⟩ := yj
  have e41 : gI Mj 41 - 1 = nI dp := by
    rw [h3]
    exact nI_subN (b := 1) (by omega)
  have e42 : gI (sI Mj 41 (nI dp)) 42 - 1 = nI op := by
    rw [gI_ne (by decide), h12]
    have : nots ([] : List Int32) = 0 := rfl
    rw [this]
    exact nI_subN (a := op + 1) (b := 1) (by omega)
  refine ⟨sI (sI Mj 41 (nI dp)) 42 (nI op), (hP1.in_ (by decide)).in_ (by decide), ⟨?_, h2, ?_, ⟨hdp, by omega⟩, ?_, hb, ?_, trivial, h9, ?_, ?_, gI_at, ?_⟩, ?_, ?_, ?_, ?_⟩
  · rw [gI_ne (by decide), gI_ne (by decide)]; exact h1
  · rw [gI_ne (by decide), gI_at]
  · show gA Mj 25 (dp - 1) = _
    rw [fj.2.1 25 _ (by omega)]
    exact hbs
  · rw [gI_ne (by decide), gI_ne (by decide)]; exact h7'
  · rw [gI_ne (by decide), gI_ne (by decide)]; exact h10
  · exact h11
  · have : nots ([] : List Int32) = 0 := rfl
    omega
  · intro a i h16 h17
    show gA Mj a i = _
    exact fj.2.1 a i (by omega)
  · rw [gI_ne (by decide), gI_ne (by decide)]
    exact fj.1 45 (by decide) (by decide) (by decide)
  · exact ((fj.p).i (by unfold pInt; omega)).i (by unfold pInt; omega)
  · unfold fX12_goesOn_546
    have hcl : (nI dp).toNatClampNeg = dp := nI_clamp (by omega)
    refine eq_t (by rw [hP.f8]; exact i00) (eq_b ej (eq_n ?_))
    rw [e41]
    refine eq_n ?_
    rw [e42]
    simp only [hcl]
end CL
end
section
/-! SUMS AND TESTS: faults further in, ends of frames, commas -/
section CLS
variable {n0 L s qf b c0 dp m bs op pw : Nat} {lx : List Int32} {ly : List (Int32 × Int32)} {MX MY : Mem}
theorem badUp {s1 k1 dp1 m1 : Nat} {ly1 : List (Int32 × Int32)} {MX1 MY1 : Mem} {rx rx' : Option (Int32 × Mem)} (hw : ∀ w, YLp n0 (w + k1) MY = YLp n0 w MY1) (hs : s + k1 ≤ s1) (fx : FPx qf MX MX1) (fy : FP b (c0 + ly.length) dp m MY MY1) (hl : ly.length ≤ ly1.length) (hd : dp ≤ dp1) (hm : m ≤ m1) (hB : Bad n0 s1 qf b c0 dp1 m1 ly1 MX1 MY1 rx) (hx : ∀ M, rx = some (0, M) → rx' = some (0, M)) : Bad n0 s qf b c0 dp m ly MX MY rx' := by
  obtain ⟨MX', MY', k, e, hk, hsk, hf, gx, gy⟩ := hB
  refine ⟨MX', MY', k + k1, hx _ e, fun w => ?_, by omega, hf, fx.tr gx, fy.tr (gy.wk (by omega) hd hm)⟩
  rw [← Nat.add_assoc, hw]
  exact hk w
theorem badGo {sc k : Nat} {p : Int32} {MXc MYc : Mem} {rx : Option (Int32 × Mem)} (hw : ∀ w, YLp n0 (w + k) MY = YLp n0 w MYc) (hs : s + k ≤ sc) (hsc : sc ≤ 1600) (fx : FPx qf MX MXc) (fy : FP b (c0 + ly.length) dp m MY MYc) (h45 : gI MYc 45 = 1) (hx : rx = some (0, sI (sI MXc 391 1) 392 p)) (hy : fX12_goesOn n0 MYc = some (0, sI (sI MYc 8 1) 9 p)) : Bad n0 s qf b c0 dp m ly MX MY rx := by
  refine ⟨_, _, 2 + k, hx, fun w => ?_, by omega, Flt.mk (k := 1) (by decide) (by decide), fx.tr FIf.p, (fy.i (by unfold pInt; omega)).i (by unfold pInt; omega)⟩
  rw [← Nat.add_assoc, hw]
  exact ylgo0 (by rw [h45]; decide) hy
theorem endBad {dq sc : Nat} {kf : Int32} {MXc MYc : Mem} (hP : PR L sc MXc MYc) (hkf : gA MYc 21 (dq - 1) = kf) (h2 : (2 : Int32) ≤ kf) (hne : ¬ gI MXc 386 = endOf kf) (hk : ¬ ari (gI MXc 386) ∨ (2 : Int32) ≤ gA MYc 22 (dq - 1)) (hT : ¬ isT kf ∨ (¬ gA MYc 22 (dq - 1) = 0 ∧ ¬ gI MXc 386 = 280 ∧ ¬ gI MXc 386 = 279)) (h41 : gI MYc 41 = nI dq) (hdq : 1 ≤ dq ∧ dq ≤ 9) : fX8_skip n0 (endOf kf) MXc = some (0, sI (sI MXc 391 1) 392 (gI MXc 388)) ∧ fX12_goesOn n0 MYc = some (0, sI (sI MYc 8 1) 9 (gI MXc 388)) := by
  refine ⟨xskF hne, ?_⟩
  by_cases hb : gI MXc 386 = 258
  · exact ygoB hP hb
  · rw [ygo422 hP hb hk (by rw [hkf]; exact hT) h41 hdq, hkf, hP.pl hb]
    exact ygoEnd hP hne h2 hb
theorem endOf_na {kf : Int32} : ¬ ari (endOf kf) ∧ ¬ endOf kf = 258 ∧ ¬ endOf kf = 259 ∧ ¬ endOf kf = 280 ∧ ¬ endOf kf = 279 := by
  unfold endOf
  repeat' split
  all_goals decide
/-- what a closed frame leaves -/
def xtra (kf pr : Int32) : List (Int32 × Int32) := if kf = 4 then [(pr, 0)] else []
theorem closeP {kf : Int32} {sc si rl r D k : Nat} {t : Bool} {lxi : List Int32} {lyi lyc δ : List (Int32 × Int32)} {R : List Int32} {MXi MYi MXc MYc : Mem} (hn : 1601 ≤ n0) (hi : En L si qf b c0 (dp + 1) m m (op + 1) pw lxi lyi MXi MYi) (hS : St n0 L si qf b c0 (dp + 1) m m (op + 1) pw lxi lyi MXi MYi rl r D t MXc MYc sc k δ R lyc) (hr : 1 ≤ r) (hkf : gA MYc 21 dp = kf) (hk4 : kf = 2 ∨ kf = 4 ∨ kf = 5) (hk : gI MXc 386 = endOf kf) (hT : ¬ isT kf ∨ ¬ gA MYc 22 dp = 0) (hdp : 1 ≤ dp) (hbs : gA MYc 25 (dp - 1) = nI bs) (hb : bs ≤ m) :
    ∃ MX1 MY1 s1, fX8_skip n0 (endOf kf) MXc = some (1, MX1) ∧ (∀ w, YLp n0 (w + 1) MYc = YLp n0 w MY1) ∧ sc < s1 ∧ PR L s1 MX1 MY1 ∧ YP b c0 dp m bs op [] (lyi ++ δ ++ xtra kf (gA MYc 24 dp)) MY1 ∧ gI MY1 45 = 1 ∧ FI 386 392 MXc MX1 ∧ FP b (c0 + lyi.length) dp m MYc MY1 ∧ gA MY1 22 (dp - 1) = (if kf = 5 then 2 else gA MYc 22 (dp - 1)) ∧ gA MY1 23 (dp - 1) = gA MYc 23 (dp - 1) := by
  obtain ⟨hlen1, hlen2, hlen3, hlen4⟩ := hS.len hi
  obtain ⟨a1, a2, a3, a4, a5, a6, a7, a8, a9, a10, a11, a12, a13, a14, a15, a16⟩ := hS
  obtain ⟨na, nb, nb9, n280, n279⟩ := endOf_na (kf := kf)
  have hL16 := a4.L16
  have hb8 : ¬ gI MXc 386 = 258 := by rw [hk]; exact nb
  have hs := a4.2.1.2.2.2.2.lt (by rw [hk]; exact nb9)
  have hdq := a6.2.2.2.1
  obtain ⟨Mj, pj, yj, arj, j45, fj, e546⟩ := cl546 (n0 := n0) (x2 := kf) (bs := bs) hn a4 a6 (fun o ho => Nat.le_trans hr (a8 o ho)) (by omega) hdp hbs hb
  rw [a7] at yj
  have hgo : fX12_goesOn n0 MYc = fX12_goesOn_546 n0 (nI dp) kf MYc := by
    rw [ygo422 (dp := dp + 1) a4 hb8 (Or.inl (by rw [hk]; exact na)) (by
      rw [Nat.add_sub_cancel, hkf]
      rcases hT with q | q
      · exact Or.inl q
      · exact Or.inr ⟨q, by rw [hk]; exact n280, by rw [hk]; exact n279⟩) a6.2.2.1 hdq, Nat.add_sub_cancel, hkf]
    unfold fX12_goesOn_422 fX12_goesOn_531
    rcases hk4 with q | q | q
    · subst q
      exact eq_t (by decide) (eq_f (by decide) (eq_f (by decide) (eq_f (by decide) (eq_b (ySign (by decide) a4) (eq_f (bz (by rw [hk]; rfl)) rfl)))))
    · subst q
      exact eq_t (by decide) (eq_f (by decide) (eq_f (by decide) (eq_f (by decide) (eq_b (ySign (by decide) a4) (eq_f (bz (by rw [hk]; rfl)) rfl)))))
    · subst q
      exact eq_t (by decide) (eq_f (by decide) (eq_f (by decide) (eq_t (by decide) (eq_b (ySign (by decide) a4) (eq_f (bz (by rw [hk]; rfl)) rfl)))))
  -- what stands ahead of the next token
  have core : ∀ Mz, PR L sc MXc Mz → YP b c0 dp m bs op [] (lyi ++ δ ++ xtra kf (gA MYc 24 dp)) Mz → gI Mz 45 = 1 → FP b (c0 + lyi.length) dp m MYc Mz → gA Mz 22 (dp - 1) = (if kf = 5 then 2 else gA MYc 22 (dp - 1)) → gA Mz 23 (dp - 1) = gA MYc 23 (dp - 1) → fX12_goesOn_546 n0 (nI dp) kf MYc = (fX12_ahead n0 Mz).bind (fun z => some (1, z)) → ∃ MX1 MY1 s1, fX8_skip n0 (endOf kf) MXc = some (1, MX1) ∧ (∀ w, YLp n0 (w + 1) MYc = YLp n0 w MY1) ∧ sc < s1 ∧ PR L s1 MX1 MY1 ∧ YP b c0 dp m bs op [] (lyi ++ δ ++ xtra kf (gA MYc 24 dp)) MY1 ∧ gI MY1 45 = 1 ∧ FI 386 392 MXc MX1 ∧ FP b (c0 + lyi.length) dp m MYc MY1 ∧ gA MY1 22 (dp - 1) = (if kf = 5 then 2 else gA MYc 22 (dp - 1)) ∧ gA MY1 23 (dp - 1) = gA MYc 23 (dp - 1) := by
    intro Mz z1 z2 z3 z4 z5 z6 z7
    obtain ⟨MX1, MY1, s1, ax, ay, hs1, hP1, fx, fy⟩ := z1.adv hn hs
    have fY := fy.Y
    refine ⟨MX1, MY1, s1, ?_, fun w => ylgo (by rw [a11]; decide) (hgo.trans (z7.trans (eq_b ay rfl))) hP1.f8, hs1, hP1, z2.tok fY, (fY.1 45 (by omega)).trans z3, fx.wk (by decide) (by decide), z4.tr fY.p, ?_, ?_⟩
    · unfold fX8_skip
      exact eq_t hk (eq_b ax rfl)
    · rw [fY.2.1 22 id]; exact z5
    · rw [fY.2.1 23 id]; exact z6
  have fj' : FP b (c0 + lyi.length) dp m MYc Mj := fj.wk (by omega) (Nat.le_refl _) (Nat.le_refl _)
  have o : ¬ oob (nI dp) 20 := nI_in (by omega) (by decide)
  rcases hk4 with q | q | q
  · refine core Mj pj (by rw [q]; simpa [xtra] using yj) (j45.trans a11) fj' (by rw [q, if_neg (by decide)]; exact arj _ _ (by decide) (by decide)) (arj _ _ (by decide) (by decide)) ?_
    rw [e546, q]
    refine eq_f (by decide) ?_
    unfold fX12_goesOn_596 fX12_goesOn_613
    exact eq_f (by decide) rfl
  · obtain ⟨ea, ya⟩ := yj.add (n0 := n0) (x := gA MYc 24 dp) (y := 0) (by rw [List.length_append]; omega)
    have i24 : gA Mj 24 dp = gA MYc 24 dp := arj _ _ (by decide) (by decide)
    have ar2 : ∀ a i, a ≠ 16 → a ≠ 17 → gA (yAdd Mj b (c0 + (lyi ++ δ).length) (gA MYc 24 dp) 0) a i = gA MYc a i := fun a i h1 h2 => by
      unfold yAdd
      show gA (sA (sA Mj 16 _ _) 17 _ _) a i = _
      rw [gA_sA_ne h2, gA_sA_ne h1]
      exact arj a i h1 h2
    refine core (yAdd Mj b (c0 + (lyi ++ δ).length) (gA MYc 24 dp) 0) pj.add (by rw [q]; simpa [xtra] using ya) ?_ (fj'.tr ((yAdd_FP (by rw [List.length_append]; omega)).wk (by rw [List.length_append]; omega) (Nat.le_refl _) (Nat.le_refl _))) (by rw [q, if_neg (by decide)]; exact ar2 _ _ (by decide) (by decide)) (ar2 _ _ (by decide) (by decide)) ?_
    · unfold yAdd
      rw [gI_ne (by decide)]
      exact j45.trans a11
    · rw [e546, q, i24]
      refine eq_t rfl (eq_f o (eq_b ea ?_))
      unfold fX12_goesOn_596 fX12_goesOn_613
      exact eq_f (by decide) rfl
  · have m41 : gI Mj 41 - 1 = nI (dp - 1) := by rw [yj.2.2.1]; exact nI_subN (b := 1) hdp
    refine core (sA Mj 22 (dp - 1) 2) (pj.ar (by decide)) (by
      have z := yj.cong (M' := sA Mj 22 (dp - 1) 2) (fun k _ => rfl) (fun a ha => gA_sA_ne (by omega))
      rw [q]
      simpa [xtra] using z) (j45.trans a11) (fj'.a (by unfold pReg; omega)) (by rw [q, if_pos rfl, gA_sA, if_pos rfl, if_pos rfl]) (by rw [gA_sA_ne (by decide)]; exact arj _ _ (by decide) (by decide)) ?_
    rw [e546, q]
    refine eq_f (by decide) ?_
    unfold fX12_goesOn_596 fX12_goesOn_613
    refine eq_t rfl (eq_f (by rw [m41]; exact nI_in (by omega) (by decide)) ?_)
    rw [m41, nI_clamp (by omega)]
/-- a comma: the frame's next part -/
theorem commaP {kf : Int32} {sc si rl r D k : Nat} {t : Bool} {lxi : List Int32} {lyi lyc δ : List (Int32 × Int32)} {R : List Int32} {MXi MYi MXc MYc : Mem} (hn : 1601 ≤ n0) (hi : En L si qf b c0 (dp + 1) m m (op + 1) pw lxi lyi MXi MYi) (hS : St n0 L si qf b c0 (dp + 1) m m (op + 1) pw lxi lyi MXi MYi rl r D t MXc MYc sc k δ R lyc) (hr : 1 ≤ r) (hkf : gA MYc 21 dp = kf) (hk4 : kf = 3 ∨ kf = 6) (hk : gI MXc 386 = 44) (hT : ¬ isT kf ∨ ¬ gA MYc 22 dp = 0) (hdp : 1 ≤ dp) :
    ∃ MX1 MY1 s1, fX8_skip n0 44 MXc = some (1, MX1) ∧ (∀ w, YLp n0 (w + 1) MYc = YLp n0 w MY1) ∧ sc < s1 ∧ En L s1 qf b c0 (dp + 1) m m (op + 1) pw (lxi ++ exL δ) (lyi ++ δ) MX1 MY1 ∧ FI 386 392 MXc MX1 ∧ FP b (c0 + lyi.length) dp m MYc MY1 ∧ gA MY1 21 dp = (if kf = 3 then 4 else 3) ∧ gA MY1 22 dp = 0 ∧ (∀ a, a = 22 ∨ a = 23 ∨ a = 25 → gA MY1 a (dp - 1) = gA MYc a (dp - 1)) ∧ gA MY1 24 dp = gA MYc 24 dp := by
  obtain ⟨hlen1, hlen2, hlen3, hlen4⟩ := hS.len hi
  obtain ⟨hP, h257, hq, hxl, hYP, h258, hdo, hmp, hcs, hll, h45⟩ := hi
  obtain ⟨a1, a2, a3, a4, a5, a6, a7, a8, a9, a10, a11, a12, a13, a14, a15, a16⟩ := hS
  have hb8 : ¬ gI MXc 386 = 258 := by rw [hk]; decide
  have hs := a4.2.1.2.2.2.2.lt (by rw [hk]; decide)
  have hdq := a6.2.2.2.1
  obtain ⟨Mj, ej, yj, fj⟩ := a6.join (n0 := n0) (least := 1) hn (fun o ho => Nat.le_trans hr (a8 o ho)) (Or.inl rfl) (by omega) (by decide)
  rw [a7] at yj
  have pj := a4.jn fj
  have hcl : (nI dp).toNatClampNeg = dp := nI_clamp (by omega)
  have o : ¬ oob (nI dp) 20 := nI_in (by omega) (by decide)
  have pz : PR L sc MXc (sA (sA Mj 21 dp (if kf = 3 then 4 else 3)) 22 dp 0) := (pj.ar (by decide)).ar (by decide)
  obtain ⟨MX1, Ma, s1, ax, ay, hs1, hP1, fx, fy⟩ := pz.adv hn hs
  have fY := fy.Y
  have ar : ∀ a i, a ≠ 16 → a ≠ 17 → a ≠ 21 → a ≠ 22 → gA (sI Ma 45 0) a i = gA MYc a i := fun a i h1 h2 h3 h4 => by
    show gA Ma a i = _
    rw [fY.2.1 a id, gA_sA_ne h4, gA_sA_ne h3, fj.2.1 a i (by omega)]
  have hFP : FP b (c0 + lyi.length) dp m MYc (sI Ma 45 0) := ((((fj.p.wk (by omega) (Nat.le_refl dp) (Nat.le_refl m)).a (by unfold pReg; omega)).a (by unfold pReg; omega)).tr fY.p).i (by unfold pInt; omega)
  have hgo : fX12_goesOn n0 MYc = some (1, sI Ma 45 0) := by
    rw [ygo422 (dp := dp + 1) a4 hb8 (Or.inl (by rw [hk]; decide)) (by
      rw [Nat.add_sub_cancel, hkf]
      rcases hT with q | q
      · exact Or.inl q
      · exact Or.inr ⟨q, by rw [hk]; decide, by rw [hk]; decide⟩) a6.2.2.1 hdq, Nat.add_sub_cancel, hkf]
    have e499 : ∀ u, u = (if kf = 3 then (4 : Int32) else 3) → fX12_goesOn_499 n0 (nI dp) (nI dp) u Mj = some (1, sI Ma 45 0) := fun u eu => by
      subst eu
      unfold fX12_goesOn_499
      simp only [hcl]
      exact eq_f o (eq_n (eq_f o (eq_n (eq_b ay (eq_n rfl)))))
    have e452 : fX12_goesOn_452 n0 (nI dp) kf MYc = some (1, sI Ma 45 0) := by
      unfold fX12_goesOn_452 fX12_goesOn_470
      refine eq_b (ySign (by decide) a4) (eq_f (bz hk) (eq_t (by show gI MYc 8 ≤ 0; rw [a4.f8]; exact i00) (eq_b ej ?_)))
      by_cases g : kf = 3
      · exact eq_t g (e499 _ (by rw [if_pos g]))
      · exact eq_f g (e499 _ (by rw [if_neg g]))
    unfold fX12_goesOn_422
    rcases hk4 with q | q
    · exact eq_t (by rw [q]; decide) (eq_t q e452)
    · exact eq_t (by rw [q]; decide) (eq_f (by rw [q]; decide) (eq_t q e452))
  refine ⟨MX1, sI Ma 45 0, s1, ?_, fun w => ylgo (by rw [a11]; decide) hgo (by rw [gI_ne (by decide)]; exact hP1.f8), hs1, ⟨hP1.in_ (by decide), ?_, hq, ?_, ?_, ⟨?_, ?_⟩, hdo, hmp, by omega, ?_, gI_at⟩, fx.wk (by decide) (by decide), hFP, ?_, ?_, fun a ha => ?_, ?_⟩
  · unfold fX8_skip
    exact eq_t hk (eq_b ax rfl)
  · rw [fx.R, a14.2.2]; exact h257
  · exact a5.fi (fx.wk (by decide) (by decide)) hq
  · exact ((yj.cong (M' := sA (sA Mj 21 dp (if kf = 3 then 4 else 3)) 22 dp 0) (fun k _ => rfl) (fun a ha => by rw [gA_sA_ne (by omega), gA_sA_ne (by omega)])).tok fY).cong (fun k hk => gI_ne (by omega)) (fun a _ => rfl)
  · rw [fx.2 258 (by omega), a14.1 258 (by omega), h258.1, hFP.1 35 (by unfold pInt; omega), a15.1 35 (by unfold pInt; omega)]
  · rw [fx.2 258 (by omega), a14.1 258 (by omega)]; exact h258.2
  · rw [List.length_append]; exact hlen3
  · show gA Ma 21 dp = _
    rw [fY.2.1 21 id, gA_sA_ne (by decide), gA_sA, if_pos rfl, if_pos rfl]
  · show gA Ma 22 dp = _
    rw [fY.2.1 22 id, gA_sA, if_pos rfl, if_pos rfl]
  · show gA Ma a (dp - 1) = _
    rw [fY.2.1 a id, gA_sA]
    by_cases e : a = 22
    · rw [if_pos e, if_neg (by omega), gA_sA_ne (by decide), fj.2.1 22 _ (by omega), e]
    · rw [if_neg e, gA_sA_ne (by omega), fj.2.1 a _ (by omega)]
  · exact ar _ _ (by decide) (by decide) (by decide) (by decide)
end CLS
end
section
/-! SUMS AND TESTS: a PART -/
def NF (dp : Nat) (MX MY : Mem) : Prop := (¬ isT (gA MY 21 (dp - 1)) ∨ gA MY 23 (dp - 1) = 0 ∨ (¬ gI MX 386 = 281 ∧ ¬ gI MX 386 = 91 ∧ ¬ gI MX 386 = 282)) ∧ ¬ (2 : Int32) ≤ gA MY 22 (dp - 1)
def DP (op : Nat) : Nat := 1 + 7 * (7 - op)
def QPart (dp : Nat) (MY : Mem) (MX' MY' : Mem) : Prop := gA MY' 22 (dp - 1) = gA MY 22 (dp - 1) ∧ gA MY' 23 (dp - 1) = 0
def QSum (dp : Nat) (MY : Mem) (MX' MY' : Mem) : Prop := QPart dp MY MX' MY' ∧ ¬ ari (gI MX' 386)
def QFact (dp : Nat) (MX' MY' : Mem) : Prop := gA MY' 22 (dp - 1) = 2 ∨ (gA MY' 22 (dp - 1) = 1 ∧ ¬ ari (gI MX' 386))
def QTest (dp : Nat) (MX' MY' : Mem) : Prop := QFact dp MX' MY' ∧ ¬ gI MX' 386 = 280 ∧ ¬ gI MX' 386 = 279
def SPart (n0 L b c0 op : Nat) (P : Mem → Prop) (g : Mem → Option (Int32 × Mem)) : Prop := ∀ s qf dp m bs pw lx ly MX MY, En L s qf b c0 dp m bs op pw lx ly MX MY → P MX → NF dp MX MY → m ≤ 30 * op + 6 → Ok n0 L s qf b c0 dp m bs op pw lx ly MX MY 0 6 (DP op) false (QPart dp MY) (g MX) ∨ Bad n0 s qf b c0 dp m ly MX MY (g MX)
def SSum (n0 L b c0 op : Nat) (g : Mem → Option (Int32 × Mem)) : Prop := ∀ s qf dp m bs pw lx ly MX MY, En L s qf b c0 dp m bs op pw lx ly MX MY → NF dp MX MY → (m = bs ∨ rkI (gA MY 26 (m - 1)) < 5) → m ≤ 30 * op + 4 → Ok n0 L s qf b c0 dp m bs op pw lx ly MX MY 2 5 (DP op + 2) false (QSum dp MY) (g MX) ∨ Bad n0 s qf b c0 dp m ly MX MY (g MX)
def TPre (dp : Nat) (MY : Mem) : Prop := isT (gA MY 21 (dp - 1)) ∧ gA MY 22 (dp - 1) = 0 ∧ gA MY 23 (dp - 1) = 1
def STest (n0 L b c0 op : Nat) (g : Mem → Option (Int32 × Mem)) : Prop := ∀ s qf dp m bs pw lx ly MX MY, En L s qf b c0 dp m bs op pw lx ly MX MY → TPre dp MY → m = bs → m ≤ 30 * op → Ok n0 L s qf b c0 dp m bs op pw lx ly MX MY (5 + (7 - op)) 1 (DP op + 5) true (QTest dp) (g MX) ∨ Bad n0 s qf b c0 dp m ly MX MY (g MX)
section PT
variable {n0 L s qf b c0 dp m bs op pw : Nat} {lx : List Int32} {ly : List (Int32 × Int32)} {MX MY : Mem}
theorem xgo1 {c : Int32} {M M' : Mem} (h7 : op < 7) (hk : gI M 386 = c) (ha : fX8_advance n0 M = some M') : fX3_goIn n0 c (nI op) M = some (1, M') := by
  unfold fX3_goIn
  exact eq_t hk (eq_t (nI_lt (b := 7) h7 (by decide)) (eq_b ha rfl))
theorem xgo5 {c : Int32} {M : Mem} (h7 : op = 7) (hk : gI M 386 = c) : fX3_goIn n0 c (nI op) M = some (0, sI (sI M 391 5) 392 (gI M 387)) := by
  unfold fX3_goIn
  exact eq_t hk (eq_f (by rw [h7]; decide) (eq_b xfail (eq_t (Or.inl rfl) rfl)))
theorem xgoN {c x : Int32} {M : Mem} (hk : ¬ gI M 386 = c) : fX3_goIn n0 c x M = some (0, sI (sI M 391 1) 392 (gI M 388)) := by
  unfold fX3_goIn
  exact eq_f hk (eq_b xfailH (eq_t (Or.inl rfl) rfl))
theorem openEn {kk : Int32} {s0 : Nat} {MX0 M0 : Mem} (g : Mem → Mem) (hn : 1601 ≤ n0) (h : En L s qf b c0 dp m bs op pw lx ly MX MY) (hP0 : PR L s0 MX0 M0) (hs0 : s ≤ s0) (fx0 : FI 386 392 MX MX0) (hY0 : YP b c0 dp m bs op [] ly M0) (f0 : FP b (c0 + ly.length) dp m MY M0) (hs : s0 < L) (h7 : op < 7) (g1 : ∀ M k, gI (g M) k = gI M k) (g2 : ∀ M, gL (g M) = gL M) (g3 : ∀ M a, a ≠ 24 → gA (g M) a = gA M a) (g4 : ∀ M, FP b (c0 + ly.length) dp m M (g M)) :
    ∃ MX1 M' s1, fX8_advance n0 MX0 = some MX1 ∧ fX12_opens n0 kk M0 = some M' ∧ s0 < s1 ∧ gI M' 8 = 0 ∧ gI M' 41 = nI (dp + 1) ∧ En L s1 qf b c0 (dp + 1) m m (op + 1) pw lx ly MX1 (sI (g M') 45 0) ∧ FPx qf MX MX1 ∧ FP b (c0 + ly.length) dp m MY (sI (g M') 45 0) ∧ gA M' 21 dp = kk ∧ gA M' 22 dp = 0 ∧ gA M' 23 dp = 1 ∧ gA M' 22 (dp - 1) = gA M0 22 (dp - 1) ∧ gA M' 23 (dp - 1) = gA M0 23 (dp - 1) := by
  obtain ⟨hP, h257, hq, hxl, hYP, h258, hdo, hmp, hcs, hll, h45⟩ := h
  obtain ⟨MX1, M', s1, ax, eo, hs1, hP1, yp, e1, e2, e3, fx, fp, e4, e5⟩ := opP (n0 := n0) (kk := kk) hn hP0 hs hY0 h7 hdo
  have hfx : FI 386 392 MX MX1 := fx0.tr fx
  have hFP : FP b (c0 + ly.length) dp m MY (sI (g M') 45 0) := ((f0.tr fp).tr (g4 M')).i (by unfold pInt; omega)
  refine ⟨MX1, M', s1, ax, eo, hs1, hP1.f8, yp.2.2.1, ⟨?_, ?_, hq, ?_, ?_, ⟨?_, ?_⟩, by omega, hmp, by omega, hll, gI_at⟩, hfx.p, hFP, e1, e2, e3, e4, e5⟩
  · exact hP1.yw (fun k hk => by rw [gI_ne (by omega), g1]) (by show gL (g M') 7 = _; rw [g2]) (by show gA (g M') 1 = _; rw [g3 _ _ (by decide)])
  · rw [hfx.R]; exact h257
  · exact hxl.fi hfx hq
  · exact yp.cong (fun k hk => by rw [gI_ne (by omega), g1]) (fun a ha => by show gA (g M') a = _; rw [g3 _ _ (by omega)])
  · rw [hfx.2 258 (by omega), h258.1, hFP.1 35 (by unfold pInt; omega)]
  · rw [hfx.2 258 (by omega)]; exact h258.2
theorem parP {rec : Nat → Int32 → Int32 → Mem → Option (Int32 × Mem)} (hn : 1601 ≤ n0) (hSum : op < 7 → SSum n0 L b c0 (op + 1) (fun M => rec 0 (nI (op + 1)) 0 M)) (h : En L s qf b c0 dp m bs op pw lx ly MX MY) (hk : gI MX 386 = 40) (hN : NF dp MX MY) (hm : m ≤ 30 * op + 6) {rx : Option (Int32 × Mem)} (hrx : rx = (fX3_goIn n0 (40 : Int32) (nI op) MX).bind fun z217 => if z217.1 = 0 then some ((0 : Int32), z217.2) else (rec 0 (nI op + (1 : Int32)) (0 : Int32) z217.2).bind fun z227 => if z227.1 = 0 then some ((0 : Int32), z227.2) else (fX8_skip n0 (41 : Int32) z227.2).bind fun z239 => if z239.1 = 0 then some ((0 : Int32), z239.2) else some ((1 : Int32), z239.2)) :
    Ok n0 L s qf b c0 dp m bs op pw lx ly MX MY 0 6 (DP op) false (QPart dp MY) rx ∨ Bad n0 s qf b c0 dp m ly MX MY rx := by
  have hh := h
  obtain ⟨hP, h257, hq, hxl, hYP, h258, hdo, hmp, hcs, hll, h45⟩ := h
  have hb : ¬ gI MX 386 = 258 := by rw [hk]; decide
  have hs := hP.2.1.2.2.2.2.lt (by rw [hk]; decide)
  have hdp := hYP.2.2.2.1
  have hop7 : op ≤ 7 := hYP.2.2.2.2.2.2.2.2.2.2.2.2
  have hP1 : PR L s MX (sA MY 23 (dp - 1) 0) := hP.ar (by decide)
  have hY1 : YP b c0 dp m bs op [] ly (sA MY 23 (dp - 1) 0) := hYP.cong (fun k _ => rfl) (fun a ha => gA_sA_ne (by omega))
  have f1 : FP b (c0 + ly.length) dp m MY (sA MY 23 (dp - 1) 0) := FP.r.a (by unfold pReg; omega)
  have hy : fX12_operand n0 MY = (fX12_opens n0 2 (sA MY 23 (dp - 1) 0)).bind fun z => some (0, z) := by rw [yop171 hP hb hYP.2.2.1 hdp hN.1, y171o hP1 hk]
  by_cases h7 : op = 7
  · right
    refine badOp (k := 5) (r := 0) (p := nI s) (M1 := sA MY 23 (dp - 1) 0) hh (by decide) (by decide) (Or.inl rfl) ?_ f1 (hy.trans (eq_b (opF hP1 (by show gI MY 42 = 7; rw [hYP.2.2.2.2.2.2.2.2.2.2.2.1, h7]; rfl)) rfl))
    rw [hrx]
    refine eq_b (xgo5 h7 hk) (eq_t rfl ?_)
    show some ((0 : Int32), sI (sI MX 391 5) 392 (gI MX 387)) = _
    rw [hP.st]
    rfl
  have h7' : op < 7 := by omega
  obtain ⟨MX1, M', s1, ax, eo, hs1, m8, m41, hE1, fx1, fp1, k21, k22, k23, p22, p23⟩ := openEn (kk := 2) (fun M => M) hn hh hP1 (Nat.le_refl s) FI.r hY1 f1 hs h7' (fun _ _ => rfl) (fun _ => rfl) (fun _ _ _ => rfl) (fun _ => FP.r)
  have hw1 : ∀ w, YLp n0 (w + 1) MY = YLp n0 w (sI M' 45 0) := fun w => ylop h45 (Or.inl rfl) (hy.trans (eq_b eo rfl)) m8
  have xg := xgo1 (n0 := n0) h7' hk ax
  have hsum := hSum h7' s1 qf (dp + 1) m m pw lx ly MX1 (sI M' 45 0) hE1 ⟨Or.inl (by rw [Nat.add_sub_cancel]; show ¬ isT (gA M' 21 dp); rw [k21]; decide), by rw [Nat.add_sub_cancel]; show ¬ (2 : Int32) ≤ gA M' 22 dp; rw [k22]; decide⟩ (Or.inl rfl) (by omega)
  rcases hsum with ⟨MX2, MY2, s2, k2, δ, R, ly2, er, hS, hQ⟩ | hB
  rotate_left
  · right
    refine badUp (k1 := 1) hw1 (by omega) fx1 fp1 (Nat.le_refl _) (by omega) (Nat.le_refl _) hB (fun M e => ?_)
    rw [hrx]
    exact eq_b xg (eq_f i10 (eq_b (by rw [nI_1]; exact e) (eq_t rfl rfl)))
  have er' : rec 0 (nI op + (1 : Int32)) 0 MX1 = some (1, MX2) := by rw [nI_1]; exact er
  have hSS := hS
  obtain ⟨hlen1, hlen2, hlen3, hlen4⟩ := hS.len hE1
  obtain ⟨a1, a2, a3, a4, a5, a6, a7, a8, a9, a10, a11, a12, a13, a14, a15, a16⟩ := hS
  rw [show QSum (dp + 1) (sI M' 45 0) MX2 MY2 = (((gA MY2 22 dp = gA M' 22 dp) ∧ gA MY2 23 dp = 0) ∧ ¬ ari (gI MX2 386)) from rfl] at hQ
  have f21 : gA MY2 21 dp = 2 := (a15.2.1 21 dp (by unfold pReg; omega)).trans k21
  have fpA : FP b (c0 + ly.length) dp m MY MY2 := fp1.tr (a15.wk (Nat.le_refl _) (by omega) (Nat.le_refl _))
  have hwA : ∀ w, YLp n0 (w + (k2 + 1)) MY = YLp n0 w MY2 := fun w => by rw [← Nat.add_assoc, hw1, a1]
  have b25 : gA MY2 25 (dp - 1) = nI bs := (fpA.2.1 25 _ (by unfold pReg; omega)).trans hYP.2.2.2.2.1
  by_cases hc : gI MX2 386 = 41
  · obtain ⟨MX3, MY3, s3, sk, hw3, hs3, hP3, yp3, g45, fx3, fp3, g22, g23⟩ := closeP (kf := 2) (bs := bs) hn hE1 hSS (by decide) f21 (Or.inl rfl) hc (Or.inl (by decide)) hdp.1 b25 hYP.2.2.2.2.2.1
    left
    refine ⟨MX3, MY3, s3, 1 + (k2 + 1), δ, [], ly ++ δ, ?_, ⟨fun w => ?_, by omega, by omega, hP3, a5.fi fx3 hq, by simpa [xtra] using yp3, by simp [fl], fun o ho => by simp at ho, by simp, ?_, g45, fun st hst => a12 st (by unfold DP at hst ⊢; omega), a13, (fx1.tr a14).tr fx3.p, fpA.tr fp3, by simp⟩, ?_, ?_⟩
    · rw [hrx]
      exact eq_b xg (eq_f i10 (eq_b er' (eq_f i10 (eq_b sk (eq_f i10 rfl)))))
    · rw [← Nat.add_assoc, hwA, hw3]
    · omega
    · rw [g22, if_neg (by decide), a15.2.1 22 (dp - 1) (by unfold pReg; omega)]
      show gA M' 22 (dp - 1) = _
      rw [p22, gA_sA_ne (by decide)]
    · rw [g23, a15.2.1 23 (dp - 1) (by unfold pReg; omega)]
      show gA M' 23 (dp - 1) = _
      rw [p23, gA_sA, if_pos rfl, if_pos rfl]
  · right
    obtain ⟨sk, go⟩ := endBad (n0 := n0) (dq := dp + 1) (kf := 2) a4 (by rw [Nat.add_sub_cancel]; exact f21) (by decide) hc (Or.inl hQ.2) (Or.inl (by decide)) a6.2.2.1 a6.2.2.2.1
    refine badGo hwA (by omega) hlen4 (fx1.tr a14) fpA a11 ?_ go
    rw [hrx]
    exact eq_b xg (eq_f i10 (eq_b er' (eq_f i10 (eq_b sk (eq_t rfl rfl)))))
end PT
end
section
/-! SUMS AND TESTS: min, max, if -/
/-- inside a frame of the outer PART -/
def Inr (n0 L s qf b c0 dp m bs op pw : Nat) (ly : List (Int32 × Int32)) (MX MY : Mem) (wh kf : Int32) (lxi : List Int32) (lyi : List (Int32 × Int32)) (MXi MYi : Mem) (si k : Nat) : Prop :=
  (∀ w, YLp n0 (w + k) MY = YLp n0 w MYi) ∧ s + k ≤ si ∧ FPx qf MX MXi ∧ FP b (c0 + ly.length) dp m MY MYi ∧ En L si qf b c0 (dp + 1) m m (op + 1) pw lxi lyi MXi MYi ∧ gA MYi 21 dp = kf ∧ gA MYi 24 dp = wh ∧ gA MYi 22 dp = 0 ∧ gA MYi 22 (dp - 1) = gA MY 22 (dp - 1) ∧ gA MYi 23 (dp - 1) = 0 ∧ ly.length ≤ lyi.length ∧ gA MYi 25 (dp - 1) = nI bs
section IN
variable {n0 L s qf b c0 dp m bs op pw : Nat} {ly : List (Int32 × Int32)} {MX MY : Mem} {wh : Int32} {lxi : List Int32} {lyi : List (Int32 × Int32)} {MXi MYi : Mem} {si k : Nat}
theorem badOp2 {kk : Nat} {p r : Int32} {lx : List Int32} {MXa M1 : Mem} {rx : Option (Int32 × Mem)} (h : En L s qf b c0 dp m bs op pw lx ly MX MY) (h1 : 1 ≤ kk) (h6 : kk ≤ 6) (hr : r = 0 ∨ r = 1) (hx : rx = some (0, sI (sI MXa 391 (nI kk)) 392 p)) (fx : FPx qf MX MXa) (hf : FP b (c0 + ly.length) dp m MY M1) (hy : fX12_operand n0 MY = some (r, sI (sI M1 8 (nI kk)) 9 p)) : Bad n0 s qf b c0 dp m ly MX MY rx := by
  have n8 : ¬ gI (sI (sI M1 8 (nI kk)) 9 p) 8 = 0 := pos_ne (n8f h1 h6)
  have := h.sL
  refine ⟨_, sI (sI (sI M1 8 (nI kk)) 9 p) 45 r, 2, hx, fun w => ylopF h.2.2.2.2.2.2.2.2.2.2 hr hy n8, by omega, ?_, fx.tr FIf.p, ((hf.i (by unfold pInt; omega)).i (by unfold pInt; omega)).i (by unfold pInt; omega)⟩
  exact (Flt.mk (MX := MXa) (MY := M1) (p := p) h1 h6).cong rfl rfl (gI_ne (by decide)) (gI_ne (by decide))
theorem yopensF {k : Int32} {M : Mem} (h : ¬ gI M 8 ≤ 0) : fX12_opens n0 k M = some M := by
  unfold fX12_opens fX12_opens_18
  by_cases g : gI M 42 = 7
  · exact eq_t g (eq_b (yblame1 h) (eq_f h rfl))
  · exact eq_f g (eq_f h rfl)
theorem y276F {x : Int32} {M : Mem} (h : ¬ gI M 8 ≤ 0) : fX12_operand_276 n0 x M = some (0, M) := by
  unfold fX12_operand_276 fX12_operand_289
  by_cases g : x = 44
  · exact eq_t g (eq_b (yopensF h) (eq_f (pos_ne h) rfl))
  · exact eq_f g (eq_b (yopensF h) (eq_f (pos_ne h) rfl))
theorem kwOpen {lx : List Int32} (hn : 1601 ≤ n0) (h : En L s qf b c0 dp m bs op pw lx ly MX MY) (hk : gI MX 386 = 283 ∨ gI MX 386 = 284 ∨ gI MX 386 = 278) (hN : NF dp MX MY) (hwh : wh = if gI MX 386 = 283 then 36 else if gI MX 386 = 284 then 37 else 44) :
    (∃ MXa MXf, fX8_advance n0 MX = some MXa ∧ fX3_goIn n0 40 (nI op) MXa = some (0, MXf) ∧ ∀ rx, rx = some ((0 : Int32), MXf) → Bad n0 s qf b c0 dp m ly MX MY rx) ∨
    (op < 7 ∧ ∃ MXa MX1 MY1 s1, fX8_advance n0 MX = some MXa ∧ fX3_goIn n0 40 (nI op) MXa = some (1, MX1) ∧ Inr n0 L s qf b c0 dp m bs op pw ly MX MY wh (if wh = 44 then 6 else 3) lx ly MX1 MY1 s1 1 ∧ gA MY1 23 dp = 1) := by
  have hh := h
  obtain ⟨hP, h257, hq, hxl, hYP, h258, hdo, hmp, hcs, hll, h45⟩ := h
  have hb : ¬ gI MX 386 = 258 := by rcases hk with e | e | e <;> rw [e] <;> decide
  have hb9 : ¬ gI MX 386 = 259 := by rcases hk with e | e | e <;> rw [e] <;> decide
  have hs := hP.2.1.2.2.2.2.lt hb9
  have hdp := hYP.2.2.2.1
  have hop7 : op ≤ 7 := hYP.2.2.2.2.2.2.2.2.2.2.2.2
  have hP1 : PR L s MX (sA MY 23 (dp - 1) 0) := hP.ar (by decide)
  have hY1 : YP b c0 dp m bs op [] ly (sA MY 23 (dp - 1) 0) := hYP.cong (fun k _ => rfl) (fun a ha => gA_sA_ne (by omega))
  have f1 : FP b (c0 + ly.length) dp m MY (sA MY 23 (dp - 1) 0) := FP.r.a (by unfold pReg; omega)
  have hy : fX12_operand n0 MY = fX12_operand_249 n0 wh (sA MY 23 (dp - 1) 0) := by rw [yop171 hP hb hYP.2.2.1 hdp hN.1, y171w hP1 hk, hwh]
  obtain ⟨MXa, Ma, s1, ax, ay, hs1, hPa, fx, fy⟩ := hP1.adv hn hs
  have fY := fy.Y
  have fx' : FI 386 392 MX MXa := fx.wk (by decide) (by decide)
  have hYa := hY1.tok fY
  have fa : FP b (c0 + ly.length) dp m MY Ma := f1.tr fY.p
  by_cases hc : gI MXa 386 = 40
  rotate_left
  · left
    refine ⟨MXa, _, ax, xgoN hc, fun rx hrx => badOp2 (kk := 1) (r := 0) (p := gI MXa 388) (M1 := Ma) hh (by decide) (by decide) (Or.inl rfl) hrx fx'.p fa ?_⟩
    rw [hy]
    have n1 : ¬ gI (sI (sI Ma 8 1) 9 (gI MXa 388)) 8 ≤ 0 := n8f (k := 1) (by decide) (by decide)
    unfold fX12_operand_249
    refine eq_b ay ?_
    by_cases hb' : gI MXa 386 = 258
    · refine eq_b (ylexB hPa hb') ?_
      rcases ySign2 (n0 := n0) (c := 40) (M := sI (sI Ma 8 1) 9 (gI MXa 388)) with q | q
      · exact eq_b q (eq_t rfl (eq_b (yblame1 n1) (y276F n1)))
      · exact eq_b q (eq_f i10 (y276F n1))
    · refine eq_b (ylexG hPa hb') (eq_b (ySign (by decide) hPa) (eq_t (bI_f hc) (eq_b (yblame0 hPa.f8) ?_)))
      rw [show gI (bI (gI MXa 386 = 40), Ma).2 4 = gI MXa 388 from hPa.at_.trans (hPa.pl hb').symm]
      exact y276F n1
  have hb' : ¬ gI MXa 386 = 258 := by rw [hc]; decide
  have e249 : ∀ r, fX12_operand_276 n0 wh Ma = r → fX12_operand n0 MY = r := fun r hr => by
    rw [hy]
    unfold fX12_operand_249
    exact eq_b ay (eq_b (ylexG hPa hb') (eq_b (ySign (by decide) hPa) (eq_f (bz hc) hr)))
  by_cases h7 : op = 7
  · left
    refine ⟨MXa, _, ax, xgo5 h7 hc, fun rx hrx => badOp2 (kk := 5) (r := 0) (p := nI s1) (M1 := Ma) hh (by decide) (by decide) (Or.inl rfl) (by rw [hrx, hPa.st]; rfl) fx'.p fa (e249 _ ?_)⟩
    have h42 : gI Ma 42 = 7 := by rw [hYa.2.2.2.2.2.2.2.2.2.2.2.1, h7]; rfl
    have n5 : ¬ gI (sI (sI Ma 8 5) 9 (nI s1)) 8 = 0 := pos_ne (n8f (k := 5) (by decide) (by decide))
    unfold fX12_operand_276 fX12_operand_289
    by_cases g : wh = 44
    · exact eq_t g (eq_b (opF hPa h42) (eq_f n5 rfl))
    · exact eq_f g (eq_b (opF hPa h42) (eq_f n5 rfl))
  right
  have h7' : op < 7 := by omega
  obtain ⟨MX1, M', s2, ax2, eo, hs2, m8, m41, hE1, fx1, fp1, k21, k22, k23, p22, p23⟩ := openEn (kk := if wh = 44 then 6 else 3) (fun M => sA M 24 dp wh) hn hh hPa (by omega) fx' hYa fa (hPa.2.1.2.2.2.2.lt (by rw [hc]; decide)) h7' (fun _ _ => rfl) (fun _ => rfl) (fun _ _ ha => gA_sA_ne ha) (fun M => FP.r.a (by unfold pReg; omega))
  have o41 : gI M' 41 - 1 = nI dp := by
    rw [m41]
    exact nI_subN (a := dp + 1) (b := 1) (by omega)
  have e276 : fX12_operand_276 n0 wh Ma = some (0, sA M' 24 dp wh) := by
    have e289 : ∀ u, u = (if wh = 44 then (6 : Int32) else 3) → fX12_operand_289 n0 wh u Ma = some (0, sA M' 24 dp wh) := fun u eu => by
      subst eu
      unfold fX12_operand_289
      refine eq_b eo (eq_t m8 (eq_f (by rw [o41]; exact nI_in (by omega) (by decide)) ?_))
      rw [o41, nI_clamp (by omega)]
    unfold fX12_operand_276
    by_cases g : wh = 44
    · exact eq_t g (e289 _ (by rw [if_pos g]))
    · exact eq_f g (e289 _ (by rw [if_neg g]))
  have hYb := hE1.2.2.2.2.1
  refine ⟨h7', MXa, MX1, sI (sA M' 24 dp wh) 45 0, s2, ax, xgo1 h7' hc ax2, ⟨fun w => ylop h45 (Or.inl rfl) (e249 _ e276) m8, by omega, fx1, fp1, hE1, ?_, ?_, ?_, ?_, ?_, Nat.le_refl _, ?_⟩, ?_⟩
  · show gA (sA M' 24 dp wh) 21 dp = _
    rw [gA_sA_ne (by decide)]; exact k21
  · show gA (sA M' 24 dp wh) 24 dp = _
    rw [gA_sA, if_pos rfl, if_pos rfl]
  · show gA (sA M' 24 dp wh) 22 dp = _
    rw [gA_sA_ne (by decide)]; exact k22
  · show gA (sA M' 24 dp wh) 22 (dp - 1) = _
    rw [gA_sA_ne (by decide), p22, fY.2.1 22 id, gA_sA_ne (by decide)]
  · show gA (sA M' 24 dp wh) 23 (dp - 1) = _
    rw [gA_sA_ne (by decide), p23, fY.2.1 23 id, gA_sA, if_pos rfl, if_pos rfl]
  · rw [fp1.2.1 25 (dp - 1) (by unfold pReg; omega)]
    exact hYP.2.2.2.2.1
  · show gA (sA M' 24 dp wh) 23 dp = _
    rw [gA_sA_ne (by decide)]; exact k23
/-- one part of a frame and the sign behind it: a comma -/
theorem inrC {rl r D : Nat} {t : Bool} {kf : Int32} {Q : Mem → Mem → Prop} {g : Mem → Option (Int32 × Mem)} (hn : 1601 ≤ n0) (hI : Inr n0 L s qf b c0 dp m bs op pw ly MX MY wh kf lxi lyi MXi MYi si k) (hk4 : kf = 3 ∨ kf = 6) (hr : 1 ≤ r) (hdp : 1 ≤ dp) (hS : Ok n0 L si qf b c0 (dp + 1) m m (op + 1) pw lxi lyi MXi MYi rl r D t Q (g MXi) ∨ Bad n0 si qf b c0 (dp + 1) m lyi MXi MYi (g MXi)) (hQ : ∀ MX' MY', gA MY' 21 dp = kf → Q MX' MY' → (¬ ari (gI MX' 386) ∨ (2 : Int32) ≤ gA MY' 22 dp) ∧ (¬ isT kf ∨ (¬ gA MY' 22 dp = 0 ∧ ¬ gI MX' 386 = 280 ∧ ¬ gI MX' 386 = 279))) :
    (∃ MXf, g MXi = some (0, MXf) ∧ ∀ rx, rx = some ((0 : Int32), MXf) → Bad n0 s qf b c0 dp m ly MX MY rx) ∨ (∃ MX2 MXf, g MXi = some (1, MX2) ∧ fX8_skip n0 44 MX2 = some (0, MXf) ∧ ∀ rx, rx = some ((0 : Int32), MXf) → Bad n0 s qf b c0 dp m ly MX MY rx) ∨
    (∃ MX2 MX3 MY3 s3 k3 δ, g MXi = some (1, MX2) ∧ fX8_skip n0 44 MX2 = some (1, MX3) ∧ (∀ st, st.length + D ≤ 60 → tyL δ st = some (t :: st)) ∧ 0 < δ.length ∧ Inr n0 L s qf b c0 dp m bs op pw ly MX MY wh (if kf = 3 then 4 else 3) (lxi ++ exL δ) (lyi ++ δ) MX3 MY3 s3 k3) := by
  obtain ⟨i1, i2, i3, i4, i5, i6, i7, i8, i9, i10', i11, i12⟩ := hI
  rcases hS with ⟨MX2, MY2, s2, k2, δ, R, ly2, er, hSt, hq⟩ | hB
  rotate_left
  · obtain ⟨MXf, MYf, kk, e, r1, r2, r3, r4, r5⟩ := hB
    exact Or.inl ⟨MXf, e, fun rx hrx => badUp (k1 := k) i1 i2 i3 i4 i11 (by omega) (Nat.le_refl _) (rx := g MXi) ⟨MXf, MYf, kk, e, r1, r2, r3, r4, r5⟩ (fun M eM => by rw [hrx]; rw [e] at eM; exact eM)⟩
  right
  have hSS := hSt
  obtain ⟨hlen1, hlen2, hlen3, hlen4⟩ := hSt.len i5
  obtain ⟨a1, a2, a3, a4, a5, a6, a7, a8, a9, a10, a11, a12, a13, a14, a15, a16⟩ := hSt
  have f21 : gA MY2 21 dp = kf := (a15.2.1 21 dp (by unfold pReg; omega)).trans i6
  obtain ⟨hc1, hc2⟩ := hQ MX2 MY2 f21 hq
  have fpA : FP b (c0 + ly.length) dp m MY MY2 := i4.tr (a15.wk (by omega) (by omega) (Nat.le_refl _))
  have hwA : ∀ w, YLp n0 (w + (k2 + k)) MY = YLp n0 w MY2 := fun w => by rw [← Nat.add_assoc, i1, a1]
  have hen : endOf kf = 44 := by rcases hk4 with q | q <;> rw [q] <;> rfl
  by_cases hc : gI MX2 386 = 44
  · right
    obtain ⟨MX3, MY3, s3, sk, hw3, hs3, hE3, fx3, fp3, g21, g22, g3, g24⟩ := commaP (kf := kf) hn i5 hSS hr f21 hk4 hc (by
      rcases hc2 with q | q
      · exact Or.inl q
      · exact Or.inr q.1) hdp
    refine ⟨MX2, MX3, MY3, s3, 1 + (k2 + k), δ, er, sk, a12, a13, fun w => ?_, by omega, (i3.tr a14).tr fx3.p, fpA.tr (fp3.wk (by omega) (Nat.le_refl _) (Nat.le_refl _)), hE3, g21, ?_, g22, ?_, ?_, ?_, ?_⟩
    · rw [← Nat.add_assoc, hwA, hw3]
    · rw [g24, a15.2.1 24 dp (by unfold pReg; omega)]; exact i7
    · rw [g3 22 (by omega), a15.2.1 22 (dp - 1) (by unfold pReg; omega)]; exact i9
    · rw [g3 23 (by omega), a15.2.1 23 (dp - 1) (by unfold pReg; omega)]; exact i10'
    · rw [List.length_append]; omega
    · rw [g3 25 (by omega), a15.2.1 25 (dp - 1) (by unfold pReg; omega)]; exact i12
  · left
    obtain ⟨sk, go⟩ := endBad (n0 := n0) (dq := dp + 1) (kf := kf) a4 (by rw [Nat.add_sub_cancel]; exact f21) (by rcases hk4 with q | q <;> rw [q] <;> decide) (by rw [hen]; exact hc) (by rw [Nat.add_sub_cancel]; exact hc1) (by rw [Nat.add_sub_cancel]; exact hc2) a6.2.2.1 a6.2.2.2.1
    rw [hen] at sk
    exact ⟨MX2, _, er, sk, fun rx hrx => badGo hwA (by omega) hlen4 (i3.tr a14) fpA a11 hrx go⟩
/-- the last part of a frame -/
theorem inrE {g : Mem → Option (Int32 × Mem)} (hn : 1601 ≤ n0) (hI : Inr n0 L s qf b c0 dp m bs op pw ly MX MY wh 4 lxi lyi MXi MYi si k) (hdp : 1 ≤ dp) (hb : bs ≤ m) (hS : Ok n0 L si qf b c0 (dp + 1) m m (op + 1) pw lxi lyi MXi MYi 2 5 (DP (op + 1) + 2) false (QSum (dp + 1) MYi) (g MXi) ∨ Bad n0 si qf b c0 (dp + 1) m lyi MXi MYi (g MXi)) :
    (∃ MXf, g MXi = some (0, MXf) ∧ ∀ rx, rx = some ((0 : Int32), MXf) → Bad n0 s qf b c0 dp m ly MX MY rx) ∨ (∃ MX2 MXf, g MXi = some (1, MX2) ∧ fX8_skip n0 41 MX2 = some (0, MXf) ∧ ∀ rx, rx = some ((0 : Int32), MXf) → Bad n0 s qf b c0 dp m ly MX MY rx) ∨
    (∃ MX2 MX3 MY3 s3 k3 δ, g MXi = some (1, MX2) ∧ fX8_skip n0 41 MX2 = some (1, MX3) ∧ (∀ st, st.length + (DP (op + 1) + 2) ≤ 60 → tyL δ st = some (false :: st)) ∧ 0 < δ.length ∧ (∀ w, YLp n0 (w + k3) MY = YLp n0 w MY3) ∧ (s + k3 ≤ s3 ∧ s < s3) ∧ PR L s3 MX3 MY3 ∧ xlist MX3 qf (lxi ++ exL δ) ∧ YP b c0 dp m bs op [] (lyi ++ δ ++ [(wh, 0)]) MY3 ∧ c0 + (lxi ++ exL δ).length + pw < s3 ∧ gI MY3 45 = 1 ∧ FPx qf MX MX3 ∧ FP b (c0 + ly.length) dp m MY MY3 ∧ gA MY3 22 (dp - 1) = gA MY 22 (dp - 1) ∧ gA MY3 23 (dp - 1) = 0 ∧ gR MX3 257 = qf ∧ (lxi ++ exL δ).length < 1600) := by
  obtain ⟨i1, i2, i3, i4, i5, i6, i7, i8, i9, i10', i11, i12⟩ := hI
  rcases hS with ⟨MX2, MY2, s2, k2, δ, R, ly2, er, hSt, hq⟩ | hB
  rotate_left
  · obtain ⟨MXf, MYf, kk, e, r1, r2, r3, r4, r5⟩ := hB
    exact Or.inl ⟨MXf, e, fun rx hrx => badUp (k1 := k) i1 i2 i3 i4 i11 (by omega) (Nat.le_refl _) (rx := g MXi) ⟨MXf, MYf, kk, e, r1, r2, r3, r4, r5⟩ (fun M eM => by rw [hrx]; rw [e] at eM; exact eM)⟩
  right
  have hSS := hSt
  obtain ⟨hlen1, hlen2, hlen3, hlen4⟩ := hSt.len i5
  obtain ⟨a1, a2, a3, a4, a5, a6, a7, a8, a9, a10, a11, a12, a13, a14, a15, a16⟩ := hSt
  have f21 : gA MY2 21 dp = 4 := (a15.2.1 21 dp (by unfold pReg; omega)).trans i6
  have fpA : FP b (c0 + ly.length) dp m MY MY2 := i4.tr (a15.wk (by omega) (by omega) (Nat.le_refl _))
  have hwA : ∀ w, YLp n0 (w + (k2 + k)) MY = YLp n0 w MY2 := fun w => by rw [← Nat.add_assoc, i1, a1]
  have b25 : gA MY2 25 (dp - 1) = nI bs := (a15.2.1 25 _ (by unfold pReg; omega)).trans i12
  have w24 : gA MY2 24 dp = wh := (a15.2.1 24 dp (by unfold pReg; omega)).trans i7
  have hq0 := i5.2.2.1
  by_cases hc : gI MX2 386 = 41
  · right
    obtain ⟨MX3, MY3, s3, sk, hw3, hs3, hP3, yp3, g45, fx3, fp3, g22, g23⟩ := closeP (kf := 4) (bs := bs) hn i5 hSS (by decide) f21 (Or.inr (Or.inl rfl)) hc (Or.inl (by decide)) hdp b25 hb
    rw [w24] at yp3
    refine ⟨MX2, MX3, MY3, s3, 1 + (k2 + k), δ, er, sk, a12, a13, fun w => ?_, ⟨by omega, by omega⟩, hP3, a5.fi fx3 hq0, by simpa [xtra] using yp3, by omega, g45, (i3.tr a14).tr fx3.p, fpA.tr (fp3.wk (by omega) (Nat.le_refl _) (Nat.le_refl _)), ?_, ?_, ?_, ?_⟩
    · rw [← Nat.add_assoc, hwA, hw3]
    · rw [g22, if_neg (by decide), a15.2.1 22 (dp - 1) (by unfold pReg; omega)]; exact i9
    · rw [g23, a15.2.1 23 (dp - 1) (by unfold pReg; omega)]; exact i10'
    · rw [fx3.R, a14.2.2]; exact i5.2.1
    · have := hP3.2.1.2.2.1
      have := hP3.L16
      omega
  · left
    obtain ⟨sk, go⟩ := endBad (n0 := n0) (dq := dp + 1) (kf := 4) a4 (by rw [Nat.add_sub_cancel]; exact f21) (by decide) hc (Or.inl hq.2) (Or.inl (by decide)) a6.2.2.1 a6.2.2.2.1
    exact ⟨MX2, _, er, sk, fun rx hrx => badGo hwA (by omega) hlen4 (i3.tr a14) fpA a11 hrx go⟩
end IN
end
