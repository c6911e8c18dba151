/-! TELLING ON BOTH SIDES -/
def alB (D : Nat) (h : Nat → Nat) (a : Nat) : Nat → Bool := fun b => decide (D / 2 ^ a % 2 = 1 ∧ D / 2 ^ b % 2 = 1 ∧ h a = h b)
def mx (D : Nat) (h : Nat → Nat) (N : Nat) : Nat → Nat
  | 0 => 0
  | a + 1 => max (mx D h N a) (cnt (alB D h a) N)
theorem mx_le (D : Nat) (h : Nat → Nat) (N : Nat) : ∀ a, mx D h N a ≤ N
  | 0 => Nat.zero_le _
  | a + 1 => by
    have := mx_le D h N a
    have := cnt_le (alB D h a) N
    show max _ _ ≤ N
    omega
theorem bit_hi {D n e : Nat} (hD : D < 2 ^ n) (he : n ≤ e) : ¬ D / 2 ^ e % 2 = 1 := by
  have : 2 ^ n ≤ 2 ^ e := Nat.pow_le_pow_right (by decide) he
  rw [Nat.div_eq_of_lt (by omega)]
  decide
theorem cnt_ext {P : Nat → Bool} {n : Nat} : ∀ k, (∀ i, n ≤ i → P i = false) → cnt P (n + k) = cnt P n
  | 0, _ => rfl
  | k + 1, h => by
    show cnt P (n + k) + b01 (P (n + k)) = _
    rw [cnt_ext k h, h (n + k) (by omega)]
    rfl
theorem cnt_none {P : Nat → Bool} : ∀ n, (∀ i, i < n → P i = false) → cnt P n = 0
  | 0, _ => rfl
  | n + 1, h => by
    show cnt P n + b01 (P n) = 0
    rw [cnt_none n (fun i hi => h i (by omega)), h n (by omega)]
    rfl
theorem mx_7 {D n : Nat} {h : Nat → Nat} (hn : n ≤ 7) (hD : D < 2 ^ n) : mx D h 7 7 = mx D h n n := by
  have e1 : ∀ a, cnt (alB D h a) 7 = cnt (alB D h a) n := fun a => by
    rw [show 7 = n + (7 - n) by omega]
    exact cnt_ext _ (fun i hi => decide_eq_false (fun z => bit_hi hD hi z.2.1))
  have e2 : ∀ a, mx D h 7 a = mx D h n a := fun a => by
    induction a with
    | zero => rfl
    | succ a ih =>
      show max (mx D h 7 a) (cnt (alB D h a) 7) = max (mx D h n a) (cnt (alB D h a) n)
      rw [ih, e1]
  rw [e2]
  have e3 : ∀ k, mx D h n (n + k) = mx D h n n := fun k => by
    induction k with
    | zero => rfl
    | succ k ih =>
      show max (mx D h n (n + k)) (cnt (alB D h (n + k)) n) = _
      rw [ih, cnt_none (P := alB D h (n + k)) n (fun i _ => decide_eq_false (fun z => bit_hi hD (by omega) z.1)), Nat.max_eq_left (Nat.zero_le _)]
  rw [show 7 = n + (7 - n) by omega]
  exact e3 _
abbrev xm30 (n0 : Nat) (k17 : Int32 → Int32 → Int32 → Int32 → Mem → Option (Int32 × Mem)) : Nat → Int32 → Int32 → Int32 → Int32 → Int32 → Int32 → Mem → Option (Int32 × Mem) := loopN (bX5_mostLeft_30 n0 k17) (fun _ _ _ _ _ _ _ => none)
theorem xml30 {n0 D k nt a : Nat} {h : Nat → Nat} {x3 : Int32} {k17 : Int32 → Int32 → Int32 → Int32 → Mem → Option (Int32 × Mem)} {M : Mem} (hnt : nt ≤ 6) (hD : D < 2 ^ (nt + 1)) (hk : k ≤ 40) (ha : a < 7) (hB : ∀ v, v ≤ nt → gA M (83 + v) k = nI (h v) ∧ h v ≤ 23) : ∀ w o, o ≤ 7 → 7 < w + o → xm30 n0 k17 w (nI D) (nI k) x3 (nI a) (nI (cnt (alB D h a) o)) (nI o) M = k17 (nI D) (nI k) (imax x3 (nI (cnt (alB D h a) 7))) (nI (a + 1)) M
  | 0, o, ho, hw => by omega
  | w + 1, o, ho, hw => by
    show bX5_mostLeft_30 n0 k17 (xm30 n0 k17 w) (nI D) (nI k) x3 (nI a) _ (nI o) M = _
    have D128 : D < 128 := Nat.lt_of_lt_of_le hD (p128 (by omega))
    unfold bX5_mostLeft_30
    by_cases g : o = 7
    · rw [g]
      refine eq_t (by decide) (eq_n ?_)
      rw [show nI a + 1 = nI (a + 1) from nI_add a 1]
    · have k1 : nI o + 1 = nI (o + 1) := nI_add o 1
      have step : cnt (alB D h a) (o + 1) = cnt (alB D h a) o + b01 (alB D h a o) := rfl
      have ih := xml30 (n0 := n0) (x3 := x3) (k17 := k17) hnt hD hk ha hB w (o + 1) (by omega) (by omega)
      have no : alB D h a o = false → fX5_mostLeft_61 n0 k17 (xm30 n0 k17 w) (nI D) (nI k) x3 (nI a) (nI (cnt (alB D h a) o)) (nI o) M = k17 (nI D) (nI k) (imax x3 (nI (cnt (alB D h a) 7))) (nI (a + 1)) M := fun z => by
        unfold fX5_mostLeft_61 fX5_mostLeft_62 fX5_mostLeft_93
        rw [step, z] at ih
        rw [k1]
        exact eq_t rfl ih
      have st : ¬ (7 : Int32) ≤ nI o := nI_ge (b := 7) (by omega) (by decide)
      by_cases z1 : D / 2 ^ a % 2 = 1
      · by_cases z2 : D / 2 ^ o % 2 = 1
        · have la : a ≤ nt := by
            rcases Nat.lt_or_ge nt a with y | y
            · exact absurd z1 (bit_hi hD y)
            · exact y
          have lo : o ≤ nt := by
            rcases Nat.lt_or_ge nt o with y | y
            · exact absurd z2 (bit_hi hD y)
            · exact y
          have ca : (nI a).toNatClampNeg = a := nI_clamp (by omega)
          have co : (nI o).toNatClampNeg = o := nI_clamp (by omega)
          have ck : (nI k).toNatClampNeg = k := nI_clamp (by omega)
          obtain ⟨h1, l1⟩ := hB a la
          obtain ⟨h2, l2⟩ := hB o lo
          refine eq_f st (eq_t ((b7_has D D128 a ha).mpr z1) (eq_t ((b7_has D D128 o (by omega)).mpr z2) ?_))
          unfold fX5_mostLeft_62
          simp only [ca, co, ck]
          refine eq_f (by decide) (eq_f (nI_in ha (by decide)) (eq_f (by rw [ln83 a ha]; exact nI_in (by omega) (by decide)) (eq_f (nI_in (by omega) (by decide)) (eq_f (by rw [ln83 o (by omega)]; exact nI_in (by omega) (by decide)) ?_))))
          unfold fX5_mostLeft_93
          rw [k1]
          by_cases y : h a = h o
          · refine eq_t (by rw [h1, h2, y]) ?_
            rw [step, show alB D h a o = true from decide_eq_true ⟨z1, z2, y⟩] at ih
            rw [show nI (cnt (alB D h a) o) + 1 = nI (cnt (alB D h a) o + 1) from nI_add _ 1]
            exact ih
          · refine eq_f (by rw [h1, h2]; exact fun u => y ((nI_eq (by omega) (by omega)).mp u)) ?_
            rw [step, show alB D h a o = false from decide_eq_false (fun u => y u.2.2)] at ih
            exact ih
        · exact eq_f st (eq_t ((b7_has D D128 a ha).mpr z1) (eq_f (fun u => z2 ((b7_has D D128 o (by omega)).mp u)) (no (decide_eq_false (fun u => z2 u.2.1)))))
      · exact eq_f st (eq_f (fun u => z1 ((b7_has D D128 a ha).mp u)) (no (decide_eq_false (fun u => z1 u.1))))
abbrev xm17 (n0 : Nat) : Nat → Int32 → Int32 → Int32 → Int32 → Mem → Option (Int32 × Mem) := loopN (bX5_mostLeft_17 n0) (fun _ _ _ _ _ => none)
theorem xml17 {n0 D k nt : Nat} {h : Nat → Nat} {M : Mem} (hn : 1700 ≤ n0) (hnt : nt ≤ 6) (hD : D < 2 ^ (nt + 1)) (hk : k ≤ 40) (hB : ∀ v, v ≤ nt → gA M (83 + v) k = nI (h v) ∧ h v ≤ 23) : ∀ w a, a ≤ 7 → 7 < w + a → xm17 n0 w (nI D) (nI k) (nI (mx D h 7 a)) (nI a) M = some (nI (mx D h 7 7), M)
  | 0, a, ha, hw => by omega
  | w + 1, a, ha, hw => by
    show bX5_mostLeft_17 n0 (xm17 n0 w) (nI D) (nI k) (nI (mx D h 7 a)) (nI a) M = _
    unfold bX5_mostLeft_17
    by_cases g : a = 7
    · rw [g]
      exact eq_t (by decide) rfl
    · refine eq_f (nI_ge (b := 7) (by omega) (by decide)) ?_
      have e := xml30 (n0 := n0) (x3 := nI (mx D h 7 a)) (k17 := xm17 n0 w) (M := M) hnt hD hk (show a < 7 by omega) hB n0 0 (by omega) (by omega)
      have l1 := mx_le D h 7 a
      have l2 := cnt_le (alB D h a) 7
      rw [imax_nI (by omega) (by omega)] at e
      exact e.trans (xml17 hn hnt hD hk hB w (a + 1) (by omega) (by omega))
theorem xml {n0 D k nt : Nat} {h : Nat → Nat} {M : Mem} (hn : 1700 ≤ n0) (hnt : nt ≤ 6) (hD : D < 2 ^ (nt + 1)) (hk : k ≤ 40) (hB : ∀ v, v ≤ nt → gA M (83 + v) k = nI (h v) ∧ h v ≤ 23) : fX5_mostLeft n0 (nI D) (nI k) M = some (nI (mx D h (nt + 1) (nt + 1)), M) := by
  unfold fX5_mostLeft
  rw [← mx_7 (n := nt + 1) (by omega) hD]
  exact eq_f (nI_nn (by omega)) (eq_t (nI_le (b := 40) hk (by decide)) (xml17 hn hnt hD hk hB n0 0 (by omega) (by omega)))
theorem y7has2 {n0 D d : Nat} {M : Mem} (hD : D < 128) (hd : d < 7) : fX12_has2 n0 (nI D) (nI d) M = some (bI (D / 2 ^ d % 2 = 1), M) := by
  unfold fX12_has2
  by_cases g : D / 2 ^ d % 2 = 1
  · rw [bI_t g]; exact eq_t ((b7_has D hD d hd).mpr g) rfl
  · rw [bI_f g]; exact eq_f (fun z => g ((b7_has D hD d hd).mp z)) rfl
abbrev yt78 (n0 : Nat) (k36 : Int32 → Int32 → Int32 → Int32 → Int32 → Mem → Option (Int32 × Mem)) (k58 : Int32 → Int32 → Int32 → Int32 → Int32 → Int32 → Int32 → Mem → Option (Int32 × Mem)) : Nat → Int32 → Int32 → Int32 → Int32 → Int32 → Int32 → Int32 → Int32 → Int32 → Mem → Option (Int32 × Mem) := loopN (bX12_tells_78 n0 k36 k58) (fun _ _ _ _ _ _ _ _ _ _ => none)
theorem yml78 {n0 b D k nt a : Nat} {h : Nat → Nat} {x2 x4 x5 : Int32} {k36 : Int32 → Int32 → Int32 → Int32 → Int32 → Mem → Option (Int32 × Mem)} {k58 : Int32 → Int32 → Int32 → Int32 → Int32 → Int32 → Int32 → Mem → Option (Int32 × Mem)} {M : Mem} (h13 : gI M 13 = nI b) (hb : b ≤ 1) (y2 : gA M 2 b = nI nt) (hnt : nt ≤ 6) (hD : D < 2 ^ (nt + 1)) (hk : k ≤ 40) (ha : a ≤ nt) (hB : ∀ v, v ≤ nt → gA M 42 (41 * v + k) = nI (h v) ∧ h v ≤ 23) : ∀ w o, o ≤ nt + 1 → nt + 1 < w + o → yt78 n0 k36 k58 w x2 (nI D) x4 x5 (nI k) (nI (mx D h (nt + 1) a)) (nI a) (nI (cnt (alB D h a) o)) (nI o) M = k58 x2 (nI D) x4 x5 (nI k) (nI (mx D h (nt + 1) (a + 1))) (nI (a + 1)) M
  | 0, o, ho, hw => by omega
  | w + 1, o, ho, hw => by
    show bX12_tells_78 n0 k36 k58 (yt78 n0 k36 k58 w) x2 (nI D) x4 x5 (nI k) (nI (mx D h (nt + 1) a)) (nI a) _ (nI o) M = _
    have D128 : D < 128 := Nat.lt_of_lt_of_le hD (p128 (by omega))
    have o13 : ¬ oob (gI M 13) 2 := by rw [h13]; exact nI_in (by omega) (by decide)
    have yq : gA M 2 (gI M 13).toNatClampNeg = nI nt := by rw [h13, nI_clamp (by omega)]; exact y2
    unfold bX12_tells_78
    by_cases g : o = nt + 1
    · rw [g]
      have l1 := mx_le D h (nt + 1) a
      have l2 := cnt_le (alB D h a) (nt + 1)
      have e : mx D h (nt + 1) (a + 1) = max (mx D h (nt + 1) a) (cnt (alB D h a) (nt + 1)) := rfl
      refine eq_f o13 (eq_t (by rw [yq]; exact nI_lt (by omega) (by omega)) ?_)
      unfold fX12_tells_169
      rw [show nI a + 1 = nI (a + 1) from nI_add a 1, e]
      by_cases z : cnt (alB D h a) (nt + 1) ≤ mx D h (nt + 1) a
      · rw [Nat.max_eq_left z]
        exact eq_t (nI_le z (by omega)) rfl
      · rw [Nat.max_eq_right (by omega)]
        exact eq_f (nI_ge (by omega) (by omega)) rfl
    · have k1 : nI o + 1 = nI (o + 1) := nI_add o 1
      have step : cnt (alB D h a) (o + 1) = cnt (alB D h a) o + b01 (alB D h a o) := rfl
      have ih := yml78 (n0 := n0) (x2 := x2) (x4 := x4) (x5 := x5) (k36 := k36) (k58 := k58) h13 hb y2 hnt hD hk ha hB w (o + 1) (by omega) (by omega)
      have go : ∀ u1, u1 = nI (b01 (alB D h a o)) → fX12_tells_146 n0 k36 k58 (yt78 n0 k36 k58 w) x2 (nI D) x4 x5 (nI k) (nI (mx D h (nt + 1) a)) (nI a) (nI o) (nI (cnt (alB D h a) o)) u1 M = k58 x2 (nI D) x4 x5 (nI k) (nI (mx D h (nt + 1) (a + 1))) (nI (a + 1)) M := fun u1 e => by
        unfold fX12_tells_146
        refine eq_e (v' := nI (cnt (alB D h a) (o + 1))) (by rw [e, nI_add, step]) ?_
        rw [k1]
        exact ih
      have no : alB D h a o = false → fX12_tells_145 n0 k36 k58 (yt78 n0 k36 k58 w) x2 (nI D) x4 x5 (nI k) (nI (mx D h (nt + 1) a)) (nI a) (nI o) (nI (cnt (alB D h a) o)) M = k58 x2 (nI D) x4 x5 (nI k) (nI (mx D h (nt + 1) (a + 1))) (nI (a + 1)) M := fun z => by
        unfold fX12_tells_145
        exact go 0 (by rw [z]; rfl)
      have st : ¬ gA M 2 (gI M 13).toNatClampNeg < nI o := by rw [yq]; exact fun u => by have := (nI_ltI (by omega) (by omega)).mp u; omega
      by_cases z1 : D / 2 ^ a % 2 = 1
      · by_cases z2 : D / 2 ^ o % 2 = 1
        · obtain ⟨h1, l1⟩ := hB a ha
          obtain ⟨h2, l2⟩ := hB o (by omega)
          refine eq_f o13 (eq_f st (eq_b (y7has2 D128 (by omega)) (eq_f (show ¬ bI (D / 2 ^ a % 2 = 1) = 0 by rw [bI_t z1]; decide) (eq_b (y7has2 D128 (by omega)) (eq_f (show ¬ bI (D / 2 ^ o % 2 = 1) = 0 by rw [bI_t z2]; decide) ?_)))))
          have ia : (nI (41 * a + k)).toNatClampNeg = 41 * a + k := nI_clamp (by omega)
          have io : (nI (41 * o + k)).toNatClampNeg = 41 * o + k := nI_clamp (by omega)
          simp only [y41Ix, ia, io, h1, h2]
          refine eq_f (nI_in (by omega) (by decide)) (eq_f (nI_in (by omega) (by decide)) ?_)
          by_cases y : h a = h o
          · exact eq_t (congrArg nI y) (go 1 (by rw [show alB D h a o = true from decide_eq_true ⟨z1, z2, y⟩]; rfl))
          · exact eq_f (fun u => y ((nI_eq (by omega) (by omega)).mp u)) (no (decide_eq_false (fun u => y u.2.2)))
        · exact eq_f o13 (eq_f st (eq_b (y7has2 D128 (by omega)) (eq_f (show ¬ bI (D / 2 ^ a % 2 = 1) = 0 by rw [bI_t z1]; decide) (eq_b (y7has2 D128 (by omega)) (eq_t (show bI (D / 2 ^ o % 2 = 1) = 0 from bI_f z2) (no (decide_eq_false (fun u => z2 u.2.1))))))))
      · exact eq_f o13 (eq_f st (eq_b (y7has2 D128 (by omega)) (eq_t (show bI (D / 2 ^ a % 2 = 1) = 0 from bI_f z1) (no (decide_eq_false (fun u => z1 u.1))))))
abbrev yt58 (n0 : Nat) (k36 : Int32 → Int32 → Int32 → Int32 → Int32 → Mem → Option (Int32 × Mem)) : Nat → Int32 → Int32 → Int32 → Int32 → Int32 → Int32 → Int32 → Mem → Option (Int32 × Mem) := loopN (bX12_tells_58 n0 k36) (fun _ _ _ _ _ _ _ _ => none)
theorem yml58 {n0 b D k nt : Nat} {h : Nat → Nat} {x2 x4 x5 : Int32} {k36 : Int32 → Int32 → Int32 → Int32 → Int32 → Mem → Option (Int32 × Mem)} {M : Mem} (hn : 1700 ≤ n0) (h13 : gI M 13 = nI b) (hb : b ≤ 1) (y2 : gA M 2 b = nI nt) (hnt : nt ≤ 6) (hD : D < 2 ^ (nt + 1)) (hk : k ≤ 40) (hB : ∀ v, v ≤ nt → gA M 42 (41 * v + k) = nI (h v) ∧ h v ≤ 23) : ∀ w a, a ≤ nt + 1 → nt + 1 < w + a → yt58 n0 k36 w x2 (nI D) x4 x5 (nI k) (nI (mx D h (nt + 1) a)) (nI a) M = if nI (mx D h (nt + 1) (nt + 1)) < x5 then k36 x2 (nI D) (nI k) (nI (mx D h (nt + 1) (nt + 1))) (nI (k + 1)) M else k36 x2 (nI D) x4 x5 (nI (k + 1)) M
  | 0, a, ha, hw => by omega
  | w + 1, a, ha, hw => by
    show bX12_tells_58 n0 k36 (yt58 n0 k36 w) x2 (nI D) x4 x5 (nI k) (nI (mx D h (nt + 1) a)) (nI a) M = _
    have o13 : ¬ oob (gI M 13) 2 := by rw [h13]; exact nI_in (by omega) (by decide)
    have yq : gA M 2 (gI M 13).toNatClampNeg = nI nt := by rw [h13, nI_clamp (by omega)]; exact y2
    unfold bX12_tells_58
    by_cases g : a = nt + 1
    · rw [g]
      refine eq_f o13 (eq_t (by rw [yq]; exact nI_lt (by omega) (by omega)) ?_)
      unfold fX12_tells_195
      rw [show nI k + 1 = nI (k + 1) from nI_add k 1]
    · refine eq_f o13 (eq_f (by rw [yq]; exact fun u => by have := (nI_ltI (by omega) (by omega)).mp u; omega) ?_)
      have e := yml78 (n0 := n0) (x2 := x2) (x4 := x4) (x5 := x5) (k36 := k36) (k58 := yt58 n0 k36 w) h13 hb y2 hnt hD hk (show a ≤ nt by omega) hB n0 0 (by omega) (by omega)
      exact e.trans (yml58 hn h13 hb y2 hnt hD hk hB w (a + 1) (by omega) (by omega))
abbrev xt69 (n0 : Nat) : Nat → Int32 → Int32 → Int32 → Int32 → Int32 → Int32 → Mem → Option (Int32 × Mem) := loopN (bX11_tells_69 n0) (fun _ _ _ _ _ _ _ => none)
abbrev yt36 (n0 : Nat) : Nat → Int32 → Int32 → Int32 → Int32 → Int32 → Mem → Option (Int32 × Mem) := loopN (bX12_tells_36 n0) (fun _ _ _ _ _ _ => none)
theorem telL {n0 b D nt m : Nat} {hh : Nat → Nat → Nat} {x2 : Int32} {MX MY : Mem} (hn : 1700 ≤ n0) (h13 : gI MY 13 = nI b) (hb : b ≤ 1) (y2 : gA MY 2 b = nI nt) (hnt : nt ≤ 6) (hD : D < 2 ^ (nt + 1)) (hD0 : ¬ D = 0) (hm : m ≤ 9999) (h28 : gA MY 28 0 = nI m) (hX : ∀ v j, v ≤ nt → j ≤ min 40 (9999 - m) → gA MX (83 + v) j = nI (hh v j) ∧ hh v j ≤ 23) (hY : ∀ v j, v ≤ nt → j ≤ min 40 (9999 - m) → gA MY 42 (41 * v + j) = nI (hh v j) ∧ hh v j ≤ 23) : ∀ w k be le, k ≤ min 40 (9999 - m) + 1 → min 40 (9999 - m) + 1 < w + k → be ≤ 40 → le ≤ 7 → ∃ r, xt69 n0 w x2 (nI D) (nI (min 40 (9999 - m))) (nI be) (nI le) (nI k) MX = some (r, MX) ∧ yt36 n0 w x2 (nI D) (nI be) (nI le) (nI k) MY = some (r, MY)
  | 0, k, _, _, hk, hw, _, _ => by omega
  | w + 1, k, be, le, hk, hw, hbe, hle => by
    show ∃ r, bX11_tells_69 n0 (xt69 n0 w) x2 (nI D) (nI (min 40 (9999 - m))) (nI be) (nI le) (nI k) MX = _ ∧ bX12_tells_36 n0 (yt36 n0 w) x2 (nI D) (nI be) (nI le) (nI k) MY = _
    have D128 : D < 128 := Nat.lt_of_lt_of_le hD (p128 (by omega))
    have nm : ¬ nI be = -1 := nI_m1 (by omega)
    unfold bX11_tells_69 bX12_tells_36
    by_cases g : k = min 40 (9999 - m) + 1
    · have a0 := yahF (n0 := n0) (lo := 0) (hi := 40) (k := k) h28 hm (by decide) (by decide) (by omega) (by omega)
      have x0 : nI (min 40 (9999 - m)) < nI k := nI_lt (by omega) (by omega)
      unfold fX12_tells_201
      by_cases z : x2 = 0
      · exact ⟨nI be, eq_t x0 (eq_t z rfl), eq_b a0 (eq_t rfl (eq_f nm (eq_t z rfl)))⟩
      · exact ⟨nI le, eq_t x0 (eq_f z rfl), eq_b a0 (eq_t rfl (eq_f nm (eq_f z rfl)))⟩
    · have a1 := yahT (n0 := n0) (lo := 0) (hi := 40) (k := k) h28 (by omega) (by omega) (by decide) (by omega)
      have e1 := xml (n0 := n0) (h := fun v => hh v k) hn hnt hD (show k ≤ 40 by omega) (fun v hv => hX v k hv (by omega))
      have e2 := yml58 (n0 := n0) (h := fun v => hh v k) (x2 := x2) (x4 := nI be) (x5 := nI le) (k36 := yt36 n0 w) hn h13 hb y2 hnt hD (show k ≤ 40 by omega) (fun v hv => hY v k hv (by omega)) n0 0 (by omega) (by omega)
      have l1 := mx_le D (fun v => hh v k) (nt + 1) (nt + 1)
      have st : ¬ nI (min 40 (9999 - m)) < nI k := fun u => by have := (nI_ltI (by omega) (by omega)).mp u; omega
      have k1 : nI k + 1 = nI (k + 1) := nI_add k 1
      by_cases z : mx D (fun v => hh v k) (nt + 1) (nt + 1) < le
      · obtain ⟨r, r1, r2⟩ := telL (x2 := x2) hn h13 hb y2 hnt hD hD0 hm h28 hX hY w (k + 1) k (mx D (fun v => hh v k) (nt + 1) (nt + 1)) (by omega) (by omega) (by omega) (by omega)
        refine ⟨r, eq_f st (eq_b e1 (eq_f (nI_ge z (by omega)) ?_)), eq_b a1 (eq_f (show ¬ (1 : Int32) = 0 by decide) (eq_f (nI_ne0 (by omega) (by omega)) (Eq.trans e2 ?_)))⟩
        · unfold fX11_tells_103
          rw [k1]; exact r1
        · rw [if_pos (nI_lt z (by omega))]
          exact r2
      · obtain ⟨r, r1, r2⟩ := telL (x2 := x2) hn h13 hb y2 hnt hD hD0 hm h28 hX hY w (k + 1) be le (by omega) (by omega) hbe hle
        refine ⟨r, eq_f st (eq_b e1 (eq_t (nI_le (by omega) (by omega)) ?_)), eq_b a1 (eq_f (show ¬ (1 : Int32) = 0 by decide) (eq_f (nI_ne0 (by omega) (by omega)) (Eq.trans e2 ?_)))⟩
        · unfold fX11_tells_103
          rw [k1]; exact r1
        · rw [if_neg (fun u => by have := (nI_ltI (by omega) (by omega)).mp u; omega)]
          exact r2
theorem cTells {n0 : Nat} {x y : Int32} {MX MY : Mem} (hn : 1700 ≤ n0) (h : R n0 MX MY) : Cal n0 (fX11_tells n0 x y MX) (fX12_tells n0 x y MY) := by
  have h0 := h
  obtain ⟨q, b, T, nr, C, m, pm, s, h⟩ := h
  obtain ⟨h1, h2, h3, h4, _⟩ := id h
  obtain ⟨o1, o2, o3, _⟩ := h1.2.2.2.1.2.1
  have hm := h2.1
  unfold fX11_tells fX12_tells
  rcases isCo h1 x with ⟨c, hc, rfl, e1, e2⟩ | ⟨z, e1, e2⟩
  · rcases yisc (n0 := n0) 2 (x := y) (hi := 1) (by decide) (by decide) with ⟨k, hk, rfl, e⟩ | ⟨z, e⟩
    · obtain ⟨D, X1, Y1, d1, d2, d3, d4, d5, d6, d7⟩ := held2 hn h hc
      have D128 : D < 128 := Nat.lt_of_lt_of_le d1 (p128 (by omega))
      have YT1 := h1.2.2.2.2.1.yf d5 hP28
      have m28 : gA Y1 28 0 = nI m := m28f h4.1.1 d5 hPn
      have xh : ∀ r, (if nI D = 0 then some ((-1 : Int32), X1) else bnd (imin (40 : Int32) ((9999 : Int32) - (gI X1 1281))) fun x4_50 => (fX5_mostLeft n0 (nI D) (0 : Int32) X1).bind fun z61 => fX11_tells_69 n0 (nI k) (nI D) x4_50 (0 : Int32) z61.1 (1 : Int32) z61.2) = r → ((fX9_isCorner n0 (gR MX 1) (nI c) MX).bind fun z5 => if z5.1 = 0 then some ((-1 : Int32), z5.2) else if nI k < 0 then some ((-1 : Int32), z5.2) else if nI k ≤ (1 : Int32) then (fX11_findHeld n0 (nI c) z5.2).bind fun z24 => if z24.1 = 0 then some ((-1 : Int32), z24.2) else bnd (imin (40 : Int32) ((9999 : Int32) - (gI z24.2 1281))) fun x4_50 => (fX5_mostLeft n0 z24.1 (0 : Int32) z24.2).bind fun z61 => fX11_tells_69 n0 (nI k) z24.1 x4_50 (0 : Int32) z61.1 (1 : Int32) z61.2 else some ((-1 : Int32), z5.2)) = r := fun r hr => eq_b e1 (eq_f (show ¬ (1 : Int32) = 0 by decide) (eq_f (nI_nn (by omega)) (eq_t (nI_le (b := 1) (by omega) (by decide)) (eq_b d2 hr))))
      have yh : ∀ r, fX12_tells_36 n0 (nI k) (nI D) (-1) 100000000 0 Y1 = r → ((fX12_isCorner n0 (nI c) MY).bind fun z2 => if z2.1 = 0 then some ((-1 : Int32), z2.2) else (fX12_is n0 (nI k) (0 : Int32) (1 : Int32) z2.2).bind fun z11 => if z11.1 = 0 then some ((-1 : Int32), z11.2) else (fX12_heldBits n0 (nI c) z11.2).bind fun z21 => fX12_tells_36 n0 (nI k) z21.1 (-1 : Int32) (100000000 : Int32) (0 : Int32) z21.2) = r := fun r hr => eq_b e2 (eq_f (show ¬ (1 : Int32) = 0 by decide) (eq_b (e MY) (eq_f (show ¬ (1 : Int32) = 0 by decide) (eq_b d3 hr))))
      obtain ⟨w, rfl⟩ : ∃ w, n0 = w + 1 := ⟨n0 - 1, by omega⟩
      have a1 := yahT (n0 := w + 1) (lo := 0) (hi := 40) (k := 0) m28 (by omega) (by omega) (by decide) (by omega)
      by_cases g : D = 0
      · refine Cal.scr (r := -1) h (xh _ (eq_t (by rw [g]; rfl) rfl)) (yh _ ?_) (hAsc d4) (hPsc d5)
        show bX12_tells_36 (w + 1) (yt36 (w + 1) w) (nI k) (nI D) (-1) 100000000 0 Y1 = _
        unfold bX12_tells_36
        refine eq_b a1 (eq_f (show ¬ (1 : Int32) = 0 by decide) (eq_t (by rw [g]; rfl) ?_))
        unfold fX12_tells_201
        exact eq_t rfl rfl
      · have hX : ∀ v j, v ≤ T.nt → j ≤ min 40 (9999 - m) → gA X1 (83 + v) j = nI (hby T c m v j) ∧ hby T c m v j ≤ 23 := fun v j hv hj => ⟨d6 g v j hv hj, hrs_le h1.2.2.2.2.1 hc ⟨thI_ok hv, Nat.zero_le _⟩ (by omega)⟩
        have hYY : ∀ v j, v ≤ T.nt → j ≤ min 40 (9999 - m) → gA Y1 42 (41 * v + j) = nI (hby T c m v j) ∧ hby T c m v j ≤ 23 := fun v j hv hj => ⟨d7 v j hv hj, (hX v j hv hj).2⟩
        have e3 := xml (n0 := w + 1) (h := fun v => hby T c m v 0) hn o1 d1 (show 0 ≤ 40 by decide) (fun v hv => hX v 0 hv (by omega))
        have e4 := yml58 (n0 := w + 1) (h := fun v => hby T c m v 0) (x2 := nI k) (x4 := -1) (x5 := 100000000) (k36 := yt36 (w + 1) w) hn YT1.2.2.2.1 YT1.2.2.1 YT1.2.2.2.2.1 o1 d1 (show 0 ≤ 40 by decide) (fun v hv => hYY v 0 hv (by omega)) (w + 1) 0 (by omega) (by omega)
        have l1 := mx_le D (fun v => hby T c m v 0) (T.nt + 1) (T.nt + 1)
        obtain ⟨r, r1, r2⟩ := telL (n0 := w + 1) (b := b) (x2 := nI k) (hh := hby T c m) hn YT1.2.2.2.1 YT1.2.2.1 YT1.2.2.2.2.1 o1 d1 g hm m28 hX hYY w 1 0 (mx D (fun v => hby T c m v 0) (T.nt + 1) (T.nt + 1)) (by omega) (by omega) (by omega) (by omega)
        obtain ⟨r', r3, r4⟩ := telL (n0 := w + 1) (b := b) (x2 := nI k) (hh := hby T c m) hn YT1.2.2.2.1 YT1.2.2.1 YT1.2.2.2.2.1 o1 d1 g hm m28 hX hYY (w + 1) 1 0 (mx D (fun v => hby T c m v 0) (T.nt + 1) (T.nt + 1)) (by omega) (by omega) (by omega) (by omega)
        have i1281 : gI X1 1281 = nI m := (d4.2.2.2.2 1281 (by decide)).trans h3.2.2.1
        -- the same answer with one more or less of fuel
        have mono : ∀ w' k' be le, k' ≤ min 40 (9999 - m) + 1 → min 40 (9999 - m) + 1 < w' + k' → xt69 (w + 1) (w' + 1) (nI k) (nI D) (nI (min 40 (9999 - m))) (nI be) (nI le) (nI k') X1 = xt69 (w + 1) w' (nI k) (nI D) (nI (min 40 (9999 - m))) (nI be) (nI le) (nI k') X1 := fun w' => by
          induction w' with
          | zero => intro k' be le h1' h2'; omega
          | succ w' ih =>
            intro k' be le h1' h2'
            show bX11_tells_69 (w + 1) (xt69 (w + 1) (w' + 1)) (nI k) (nI D) (nI (min 40 (9999 - m))) (nI be) (nI le) (nI k') X1 = bX11_tells_69 (w + 1) (xt69 (w + 1) w') (nI k) (nI D) (nI (min 40 (9999 - m))) (nI be) (nI le) (nI k') X1
            by_cases z : k' = min 40 (9999 - m) + 1
            · unfold bX11_tells_69
              rw [if_pos (nI_lt (by omega) (by omega)), if_pos (nI_lt (by omega) (by omega))]
            · have e5 := xml (n0 := w + 1) (h := fun v => hby T c m v k') hn o1 d1 (show k' ≤ 40 by omega) (fun v hv => hX v k' hv (by omega))
              have k1 : nI k' + 1 = nI (k' + 1) := nI_add k' 1
              unfold bX11_tells_69
              rw [e5]
              show (if _ then _ else (if nI le ≤ nI _ then fX11_tells_103 _ _ _ _ _ _ _ _ _ else fX11_tells_103 _ _ _ _ _ _ _ _ _)) = (if _ then _ else (if nI le ≤ nI _ then fX11_tells_103 _ _ _ _ _ _ _ _ _ else fX11_tells_103 _ _ _ _ _ _ _ _ _))
              unfold fX11_tells_103
              rw [k1, ih (k' + 1) be le (by omega) (by omega), ih (k' + 1) k' _ (by omega) (by omega)]
        have rr : r' = r := by
          have := (mono w 1 0 (mx D (fun v => hby T c m v 0) (T.nt + 1) (T.nt + 1)) (by omega) (by omega)).symm.trans r3
          exact ((Prod.mk.inj (Option.some.inj (r1.symm.trans this))).1).symm
        refine Cal.scr (r := r) h (xh _ (eq_f (nI_ne0 (by omega) (by omega)) (eq_e (v' := nI (min 40 (9999 - m))) ?_ (eq_b e3 ?_)))) (yh _ ?_) (hAsc d4) (hPsc d5)
        · rw [i1281, show (9999 : Int32) - nI m = nI (9999 - m) from nI_subN hm, show (40 : Int32) = nI 40 from rfl, imin_nI (by decide) (by omega)]
        · rw [← rr]; exact r3
        · show bX12_tells_36 (w + 1) (yt36 (w + 1) w) (nI k) (nI D) (-1) 100000000 0 Y1 = _
          unfold bX12_tells_36
          refine eq_b a1 (eq_f (show ¬ (1 : Int32) = 0 by decide) (eq_f (nI_ne0 (by omega) (by omega)) (Eq.trans e4 ?_)))
          exact eq_t (nI_lt (b := 100000000) (by omega) (by decide)) r2
    · refine Cal.same (r := -1) h0 (eq_b e1 (eq_f (show ¬ (1 : Int32) = 0 by decide) ?_)) (eq_b e2 (eq_f (show ¬ (1 : Int32) = 0 by decide) (eq_b (e MY) (eq_t rfl rfl))))
      by_cases g2 : y < 0
      · exact eq_t g2 rfl
      · refine eq_f g2 (eq_f (fun u => ?_) rfl)
        have z2 := z.resolve_left g2
        rw [i_le] at z2 u
        have a1 : (nI 2).toInt = 2 := rfl
        have a2 : (1 : Int32).toInt = 1 := rfl
        omega
  · exact Cal.same (r := -1) h0 (eq_b e1 (eq_t rfl rfl)) (eq_b e2 (eq_t rfl rfl))
