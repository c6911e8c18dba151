/-! WORDS: two codes of one word; the token of both sides -/
theorem e27_inj {f g : Nat → Nat} : ∀ {k : Nat}, (∀ i, i < k → f i ≤ 26 ∧ g i ≤ 26) → e27 f k = e27 g k → ∀ i, i < k → f i = g i
  | 0, _, _, i, hi => by omega
  | k + 1, h, e, i, hi => by
    have h1 := h k (by omega)
    rw [e27, e27] at e
    have h2 : e27 f k = e27 g k := by omega
    by_cases q : i = k
    · rw [q]; omega
    · exact e27_inj (fun j hj => h j (by omega)) h2 i (by omega)
theorem e256_inj {f g : Nat → Nat} : ∀ {n m : Nat}, (∀ i, i < n → f i ≤ 26) → (∀ i, i < m → g i ≤ 26) → e256 f n = e256 g m → n = m ∧ ∀ i, i < n → f i = g i
  | 0, 0, _, _, _ => ⟨rfl, fun i hi => by omega⟩
  | 0, m + 1, _, _, e => by rw [e256, e256] at e; omega
  | n + 1, 0, _, _, e => by rw [e256, e256] at e; omega
  | n + 1, m + 1, h1, h2, e => by
    have a := h1 n (by omega)
    have b := h2 m (by omega)
    rw [e256, e256] at e
    obtain ⟨q, r⟩ := e256_inj (f := f) (g := g) (n := n) (m := m) (fun i hi => h1 i (by omega)) (fun i hi => h2 i (by omega)) (by omega)
    subst q
    refine ⟨rfl, fun i hi => ?_⟩
    by_cases q : i = n
    · rw [q]; omega
    · exact r i (by omega)
theorem e27_congr {f g : Nat → Nat} : ∀ {n : Nat}, (∀ i, i < n → f i = g i) → e27 f n = e27 g n
  | 0, _ => rfl
  | n + 1, h => by rw [e27, e27, e27_congr (fun i hi => h i (by omega)), h n (by omega)]
theorem e256_congr {f g : Nat → Nat} : ∀ {n : Nat}, (∀ i, i < n → f i = g i) → e256 f n = e256 g n
  | 0, _ => rfl
  | n + 1, h => by rw [e256, e256, e256_congr (fun i hi => h i (by omega)), h n (by omega)]
theorem e27_pad {f : Nat → Nat} {n : Nat} : ∀ (j : Nat), e27 (fun i => if i < n then f i else 0) (n + j) = e27 f n * 27 ^ j
  | 0 => by
    rw [Nat.add_zero, Nat.pow_zero, Nat.mul_one]
    exact e27_congr (fun i hi => if_pos hi)
  | j + 1 => by
    show 27 * e27 _ (n + j) + (if n + j < n then f (n + j) else 0) = _
    rw [e27_pad j, if_neg (by omega), Nat.pow_succ, Nat.add_zero, Nat.mul_comm 27, Nat.mul_assoc]
def WR (v w : Nat) : Prop := ∃ f : Nat → Nat, ∃ n, 1 ≤ n ∧ n ≤ 6 ∧ (∀ i, i < n → 1 ≤ f i ∧ f i ≤ 26) ∧ v = e27 f n * 27 ^ (6 - n) ∧ w = e256 f n
theorem WR.iff {v w v' w' : Nat} (h : WR v w) (h' : WR v' w') : v = v' ↔ w = w' := by
  obtain ⟨f, n, n1, n6, hf, rfl, rfl⟩ := h
  obtain ⟨g, m, m1, m6, hg, rfl, rfl⟩ := h'
  constructor
  · intro e
    rw [← e27_pad, ← e27_pad, show n + (6 - n) = 6 by omega, show m + (6 - m) = 6 by omega] at e
    have q := e27_inj (fun i _ => ⟨by
      show (if i < n then f i else 0) ≤ 26
      by_cases h : i < n
      · rw [if_pos h]; exact (hf i h).2
      · rw [if_neg h]; omega, by
      show (if i < m then g i else 0) ≤ 26
      by_cases h : i < m
      · rw [if_pos h]; exact (hg i h).2
      · rw [if_neg h]; omega⟩) e
    have hnm : n = m := by
      rcases Nat.lt_trichotomy n m with h | h | h
      · have := q n (by omega)
        simp only [Nat.lt_irrefl, if_false, h, if_true] at this
        have := (hg n h).1
        omega
      · exact h
      · have := q m (by omega)
        simp only [Nat.lt_irrefl, if_false, h, if_true] at this
        have := (hf m h).1
        omega
    subst hnm
    refine e256_congr (fun i hi => ?_)
    have := q i (by omega)
    simp only [hi, if_true] at this
    exact this
  · intro e
    obtain ⟨rfl, q⟩ := e256_inj (fun i hi => (hf i hi).2) (fun i hi => (hg i hi).2) e
    rw [e27_congr q]
theorem WR.v_lt {v w : Nat} (h : WR v w) : v < 2 ^ 31 := by
  obtain ⟨f, n, n1, n6, hf, rfl, rfl⟩ := h
  have h1 : e27 f n < 27 ^ n := e27_lt (fun i hi => (hf i hi).2)
  have h2 : 27 ^ n * 27 ^ (6 - n) = 27 ^ 6 := by rw [← Nat.pow_add]; congr 1; omega
  have h3 : 0 < 27 ^ (6 - n) := Nat.pow_pos (by decide)
  have h4 := (Nat.mul_lt_mul_right h3).mpr h1
  rw [h2] at h4
  exact Nat.lt_trans h4 (by decide)
theorem WR.w_lt {v w : Nat} (h : WR v w) : w < 2 ^ 48 := by
  obtain ⟨f, n, n1, n6, hf, rfl, rfl⟩ := h
  have h1 : e256 f n < 256 ^ n := e256_lt (fun i hi => (hf i hi).2)
  exact Nat.lt_of_lt_of_le h1 (show 256 ^ n ≤ 256 ^ 6 from Nat.pow_le_pow_right (by decide) n6)
theorem WR.nI {v w v' w' : Nat} (h : WR v w) (h' : WR v' w') : nI v = nI v' ↔ lN w = lN w' := by
  rw [nI_eq h.v_lt h'.v_lt, pk_lEQ (Nat.lt_trans h.w_lt (by decide)) (Nat.lt_trans h'.w_lt (by decide))]
  exact h.iff h'
def ownLs : List Nat := [499967946343, 512802514792, 465491424371, 109330312357234, 1919902052, 29807, 495874044019, 1885432941, 6840691, 431365910119, 24948, 1752135026, 1935767923, 1735356005, 1885434739, 1751477348, 120299592184933, 435627783289, 26982, 28530, 6385252, 7237492, 6384748, 7170414, 7168376]
def ownL (i : Nat) : Nat := ownLs.getD i 0
def ownWs : List (List Nat) := [[20, 8, 9, 14, 7], [23, 5, 9, 7, 8], [12, 1, 19, 20, 19], [3, 15, 18, 14, 5, 18], [18, 15, 1, 4], [20, 15], [19, 20, 5, 16, 19], [16, 1, 12, 13], [8, 1, 19], [4, 15, 9, 14, 7], [1, 20], [8, 15, 21, 18], [19, 1, 25, 19], [7, 15, 14, 5], [16, 1, 19, 19], [8, 5, 12, 4], [13, 9, 14, 21, 20, 5], [5, 13, 16, 20, 25], [9, 6], [15, 18], [1, 14, 4], [14, 15, 20], [1, 12, 12], [13, 9, 14], [13, 1, 24]]
def ownW (i j : Nat) : Nat := (ownWs.getD i []).getD j 0
theorem own_ok : ∀ i, i < 25 → 1 ≤ (ownWs.getD i []).length ∧ (ownWs.getD i []).length ≤ 6 ∧ (∀ j, j < (ownWs.getD i []).length → 1 ≤ ownW i j ∧ ownW i j ≤ 26) ∧ ownC i = e27 (ownW i) (ownWs.getD i []).length * 27 ^ (6 - (ownWs.getD i []).length) ∧ ownL i = e256 (ownW i) (ownWs.getD i []).length := by decide +kernel
theorem own_WR {i : Nat} (hi : i < 25) : WR (ownC i) (ownL i) := ⟨ownW i, (ownWs.getD i []).length, own_ok i hi⟩
theorem cmp0 {x y : Int64} : lg_cmp x y = 0 ↔ x = y := lg_cmp_eq x y
/-- the text of both sides -/
def Lex0 (L : Nat) (MX MY : Mem) : Prop := gI MX 641 = nI L ∧ gI MY 2 = nI L ∧ L ≤ 1600 ∧ gA MY 1 = gA MX 6 ∧ Byt (gA MX 6) L ∧ ∀ i, i < 25 → gA MX 4 i = nI (ownC i)
def KR (kd pl va sg lx vy : Int32) (wd : Int64) (L s : Nat) : Prop :=
  (kd = 259 ∧ s = L ∧ sg = 0 ∧ lx = -1 ∧ pl = nI s)
  ∨ (kd = 258 ∧ s < L ∧ (sg = 1 ∨ sg = 2) ∧ ∃ q, q < L ∧ pl = nI q ∧ lx = nI q)
  ∨ (kd = 256 ∧ s < L ∧ sg = 2 ∧ lx = -1 ∧ pl = nI s ∧ ∃ v, v ≤ 9999 ∧ va = nI v ∧ vy = nI v)
  ∨ ((0 ≤ kd ∧ kd ≤ 255) ∧ s < L ∧ sg = 3 ∧ lx = -1 ∧ pl = nI s ∧ vy = kd)
  ∨ (s < L ∧ sg = 1 ∧ lx = -1 ∧ pl = nI s ∧ ∃ v w k, WR v w ∧ kdOf v k ∧ kd = nI k ∧ va = nI v ∧ wd = lN w)
/-- where the next token begins behind this one -/
def Beh (L s : Nat) (MX MY : Mem) : Prop := ∃ e, gI MX 390 = nI e ∧ gI MY 5 = nI e ∧ s ≤ e ∧ e ≤ L ∧ (s < L → s < e ∧ ((256 ≤ gI MX 386 ∧ ¬ gI MX 386 = 259) ↔ adj (gA MX 6) e) ∧ (gI MX 386 = 281 → s + 3 ≤ e))
def TokR (L s : Nat) (MX MY : Mem) : Prop := gI MX 387 = nI s ∧ gI MY 4 = nI s ∧ s ≤ L ∧ Beh L s MX MY ∧ KR (gI MX 386) (gI MX 388) (gI MX 389) (gI MY 3) (gI MY 12) (gI MY 6) (gL MY 7) L s
theorem e10_le {f : Nat → Nat} : ∀ {n : Nat}, (∀ i, i < n → f i ≤ 9) → e10 f n < 10 ^ n
  | 0, _ => Nat.lt_of_sub_eq_succ rfl
  | n + 1, h => by
    have h1 := e10_le (f := f) (n := n) (fun i hi => h i (by omega))
    have h2 := h n (by omega)
    rw [e10, Nat.pow_succ]
    omega
theorem V10_le {t : Nat → Int32} {L s e : Nat} (h : RnB isDg t L s e) : V10 t s e ≤ 9999 := by
  unfold V10
  have h1 : e10 (fD t s) (min (e - s) 4) < 10 ^ (min (e - s) 4) := e10_le (fun i hi => (isDg_v (h.2.2.1 (s + i) (by omega) (by omega))).1)
  have h2 : 10 ^ (min (e - s) 4) ≤ 10 ^ 4 := Nat.pow_le_pow_right (by decide) (by omega)
  omega
theorem adj_run {P : Int32 → Prop} {t : Nat → Int32} {L s e : Nat} (h : RnB P t L s e) (hs : s < e) (hP : ∀ x, P x → isLt x ∨ isDg x) : adj t e := ⟨by omega, hP _ (h.2.2.1 (e - 1) (by omega) (by omega))⟩
theorem V27_not {t : Nat → Int32} {s e : Nat} (h : V27 t s e = ownC 21) (h6 : e - s ≤ 6) : 3 ≤ e - s := by
  rcases Nat.lt_or_ge (e - s) 3 with q | q
  · have h2 : V27 t s e = e27 (fL t s) (e - s) * 27 ^ (2 - (e - s)) * 531441 := by
      unfold V27
      rw [Nat.mul_assoc, show 531441 = 27 ^ 4 from rfl, ← Nat.pow_add, show 2 - (e - s) + 4 = 6 - (e - s) by omega]
    have h3 : ownC 21 % 531441 = 393660 := by decide
    rw [← h, h2, Nat.mul_mod_left] at h3
    omega
  · exact q
theorem adv2 {n0 L p : Nat} {MX MY : Mem} (hn : 1601 ≤ n0) (h0 : Lex0 L MX MY) (hp : p ≤ L) (hx : gI MX 390 = nI p) (hy : gI MY 5 = nI p) (hB : (256 ≤ gI MX 386 ∧ ¬ gI MX 386 = 259) ↔ adj (gA MX 6) p) :
    ∃ MX' MY' s, fX8_advance n0 MX = some MX' ∧ fX12_ahead n0 MY = some MY' ∧ p ≤ s ∧ TokR L s MX' MY' ∧ FI 386 390 MX MX' ∧ FrA MY MY' := by
  obtain ⟨hLX, hLY, h16, hT, hby, hO⟩ := h0
  obtain ⟨MX', ex, ⟨s, e, hs, hX⟩, fx⟩ := xadvance hn h16 hLX hp hx hB hby hO
  obtain ⟨MY', ey, ⟨s', e', hs', hY⟩, fy⟩ := yahead hn h16 hLY hp hy
  rw [hT] at hs' hY
  obtain rfl := hs.uniq hs'
  refine ⟨MX', MY', s, ex, ey, hs.1, ?_, fx, fy⟩
  obtain ⟨x1, x2, x3, x4, x5⟩ := hX
  obtain ⟨y1, y2, y3, y4, y5⟩ := hY
  have hA6 : gA MX' 6 = gA MX 6 := by rw [fx.A]
  rcases x5 with ⟨a1, a2, a3, a4⟩ | ⟨a1, a2, a3, a4, a5, a6⟩ | ⟨a1, a2, a3, a4, a5⟩ | ⟨a1, a2, a3, a4, a5⟩
  · rcases y5 with ⟨b1, b2, b3, b4⟩ | ⟨b1, _⟩ | ⟨b1, _⟩ | ⟨b1, _⟩
    · obtain rfl : e = e' := by omega
      exact ⟨x1, y1, by omega, ⟨e, x2, y2, x3, x4, fun h => by omega⟩, Or.inl ⟨a3, a1, b3, b4, a4⟩⟩
    · omega
    · omega
    · omega
  · rcases y5 with ⟨b1, b2, b3, b4⟩ | ⟨b1, b2, b3, b4, b5, b6, b7⟩ | ⟨b1, b2, b3, b4, b5⟩ | ⟨b1, b2, b3, b4, b5⟩
    · omega
    · obtain rfl : e = e' := by omega
      have hb := hby s a1
      refine ⟨x1, y1, by omega, ⟨e, x2, y2, x3, x4, fun h => ⟨by omega, ?_, fun g => ?_⟩⟩, Or.inr (Or.inr (Or.inr (Or.inl ⟨by rw [a5]; exact hb, a1, b5, b7, a6, by rw [b6, a5]⟩)))⟩
      rotate_left
      · rw [a5] at g
        have := hb.2
        rw [g] at this
        exact absurd this (by decide)
      rw [a5, hA6]
      refine ⟨fun g => absurd g (byt_sign hb), fun g => ?_⟩
      have := g.2
      rw [a2, Nat.add_sub_cancel] at this
      rcases this with q | q
      · exact absurd q a3
      · exact absurd q a4
    · exact absurd b4 a3
    · exact absurd b4 a4
  · rcases y5 with ⟨b1, b2, b3, b4⟩ | ⟨b1, b2, b3, b4, b5, b6, b7⟩ | ⟨b1, b2, b3, b4, b5, b6⟩ | ⟨b1, b2, b3, b4, b5⟩
    · omega
    · exact absurd a4 b3
    · obtain rfl := a3.uniq b3
      have hadj : adj (gA MX 6) e := adj_run a3 a2 (fun _ => Or.inl)
      have mk : (256 ≤ gI MX' 386 ∧ ¬ gI MX' 386 = 259) → (gI MX' 386 = 281 → s + 3 ≤ e) → Beh L s MX' MY' := fun g g3 => ⟨e, x2, y2, x3, x4, fun _ => ⟨a2, by rw [hA6]; exact ⟨fun _ => hadj, fun _ => g⟩, g3⟩⟩
      rcases a5 with ⟨c1, c2, c3⟩ | ⟨c1, c2, c3, c4⟩ | ⟨c1, c2, c3, c4, k, ck, c5⟩
      · rcases b6 with ⟨d1, d2⟩ | ⟨d1, _⟩ | ⟨d1, _⟩
        · exact ⟨x1, y1, by omega, mk (by rw [c2]; exact i258) (fun g => by rw [c2] at g; exact absurd g (by decide)), Or.inr (Or.inl ⟨c2, a1, Or.inl b5, s, a1, c3, d2⟩)⟩
        · exact absurd c1 d1
        · exact absurd c1 d1
      · rcases b6 with ⟨d1, d2⟩ | ⟨d1, d2, d3⟩ | ⟨d1, d2, d3⟩
        · exact absurd d1 c1
        · exact ⟨x1, y1, by omega, mk (by rw [c3]; exact i258) (fun g => by rw [c3] at g; exact absurd g (by decide)), Or.inr (Or.inl ⟨c3, a1, Or.inl b5, s + 6, by omega, c4, d3⟩)⟩
        · omega
      · rcases b6 with ⟨d1, d2⟩ | ⟨d1, d2, d3⟩ | ⟨d1, d2, d3, d4⟩
        · exact absurd d1 c1
        · omega
        · refine ⟨x1, y1, by omega, mk (by rw [c5]; exact kdOf_w ck) (fun g => by
          rw [c5] at g
          have g2 := (nI_eq (a := k) (b := 281) (by rcases ck.1 with q | q <;> omega) (by decide)).mp g
          have := V27_not ((ck.2 21 (by decide)).mp g2) c2
          omega), Or.inr (Or.inr (Or.inr (Or.inr ⟨a1, b5, d3, c3, V27 (gA MX 6) s e, e256 (fL (gA MX 6) s) (e - s), k, ?_, ck, c5, c4, d4⟩)))⟩
          exact ⟨fL (gA MX 6) s, e - s, by omega, c2, fun i hi => by
            have := isLt_v (a3.2.2.1 (s + i) (by omega) (by omega))
            exact ⟨this.1, this.2.1⟩, rfl, rfl⟩
    · exact absurd b4 (lt_dg a4)
  · rcases y5 with ⟨b1, b2, b3, b4⟩ | ⟨b1, b2, b3, b4, b5, b6, b7⟩ | ⟨b1, b2, b3, b4, b5, b6⟩ | ⟨b1, b2, b3, b4, b5, b6⟩
    · omega
    · exact absurd a4 b4
    · exact absurd a4 (lt_dg b4)
    · obtain rfl := a3.uniq b3
      have hadj : adj (gA MX 6) e := adj_run a3 a2 (fun _ => Or.inr)
      have mk : (256 ≤ gI MX' 386 ∧ ¬ gI MX' 386 = 259) → (gI MX' 386 = 281 → s + 3 ≤ e) → Beh L s MX' MY' := fun g g3 => ⟨e, x2, y2, x3, x4, fun _ => ⟨a2, by rw [hA6]; exact ⟨fun _ => hadj, fun _ => g⟩, g3⟩⟩
      rcases a5 with ⟨c1, c2, c3⟩ | ⟨c1, c2, c3, c4⟩ | ⟨c1, c2, c3, c4, c5⟩
      · rcases b6 with ⟨d1, d2⟩ | ⟨d1, _⟩ | ⟨d1, _⟩
        · exact ⟨x1, y1, by omega, mk (by rw [c2]; exact i258) (fun g => by rw [c2] at g; exact absurd g (by decide)), Or.inr (Or.inl ⟨c2, a1, Or.inr b5, s, a1, c3, d2⟩)⟩
        · exact absurd c1 d1
        · exact absurd c1 d1
      · rcases b6 with ⟨d1, d2⟩ | ⟨d1, d2, d3⟩ | ⟨d1, d2, d3⟩
        · exact absurd d1 c1
        · exact ⟨x1, y1, by omega, mk (by rw [c3]; exact i258) (fun g => by rw [c3] at g; exact absurd g (by decide)), Or.inr (Or.inl ⟨c3, a1, Or.inr b5, s + 4, by omega, c4, d3⟩)⟩
        · omega
      · rcases b6 with ⟨d1, d2⟩ | ⟨d1, d2, d3⟩ | ⟨d1, d2, d3, d4⟩
        · exact absurd d1 c1
        · omega
        · exact ⟨x1, y1, by omega, mk (by rw [c5]; exact i256) (fun g => by rw [c5] at g; exact absurd g (by decide)), Or.inr (Or.inr (Or.inl ⟨c5, a1, b5, d3, c3, V10 (gA MX 6) s e, V10_le a3, c4, d4⟩))⟩
