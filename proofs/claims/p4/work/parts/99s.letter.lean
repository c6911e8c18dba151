/-! LETTERS OF NAMES ON BOTH SIDES -/
theorem e27_div {f : Nat → Nat} {j : Nat} : ∀ r, (∀ i, i < j + r → f i ≤ 26) → e27 f (j + r) / 27 ^ r = e27 f j
  | 0, _ => Nat.div_one _
  | r + 1, h => by
    have e : e27 f (j + (r + 1)) = 27 * e27 f (j + r) + f (j + r) := rfl
    have l := h (j + r) (by omega)
    rw [e, Nat.pow_succ, Nat.mul_comm (27 ^ r) 27, ← Nat.div_div_eq_div_mul, show (27 * e27 f (j + r) + f (j + r)) / 27 = e27 f (j + r) by omega]
    exact e27_div r (fun i hi => h i (by omega))
theorem e256_div {f : Nat → Nat} {j : Nat} : ∀ r, (∀ i, i < j + r → f i ≤ 26) → e256 f (j + r) / 256 ^ r = e256 f j
  | 0, _ => Nat.div_one _
  | r + 1, h => by
    have e : e256 f (j + (r + 1)) = 256 * e256 f (j + r) + (f (j + r) + 96) := rfl
    have l := h (j + r) (by omega)
    rw [e, Nat.pow_succ, Nat.mul_comm (256 ^ r) 256, ← Nat.div_div_eq_div_mul, show (256 * e256 f (j + r) + (f (j + r) + 96)) / 256 = e256 f (j + r) by omega]
    exact e256_div r (fun i hi => h i (by omega))
/-- letter k of a word of n letters -/
def ltr (f : Nat → Nat) (n k : Nat) : Nat := if k < n then f k else 0
theorem ltr_v {f : Nat → Nat} {n k : Nat} (hn : n ≤ 6) (hk : k ≤ 5) (hf : ∀ i, i < n → 1 ≤ f i ∧ f i ≤ 26) : e27 f n * 27 ^ (6 - n) / 27 ^ (5 - k) % 27 = ltr f n k := by
  unfold ltr
  by_cases g : k < n
  · rw [if_pos g, show 5 - k = (6 - n) + (n - 1 - k) by omega, Nat.pow_add, ← Nat.div_div_eq_div_mul, Nat.mul_div_cancel _ (Nat.pow_pos (by decide))]
    have e := e27_div (f := f) (j := k + 1) (n - 1 - k) (fun i hi => (hf i (by omega)).2)
    rw [show k + 1 + (n - 1 - k) = n by omega] at e
    rw [e]
    have e2 : e27 f (k + 1) = 27 * e27 f k + f k := rfl
    have l := (hf k g).2
    rw [e2]
    omega
  · rw [if_neg g, show 6 - n = (5 - k) + (k + 1 - n) by omega, Nat.pow_add, Nat.mul_comm (27 ^ (5 - k)), ← Nat.mul_assoc, Nat.mul_div_cancel _ (Nat.pow_pos (by decide)), show k + 1 - n = (k - n) + 1 by omega, Nat.pow_succ, ← Nat.mul_assoc]
    exact Nat.mul_mod_left _ _
abbrev xlL (n0 : Nat) : Nat → Int32 → Int32 → Int32 → Mem → Option (Int32 × Mem) := loopN (bX8_letterOf_4 n0) (fun _ _ _ _ => none)
theorem xlet4 {n0 k : Nat} {M : Mem} (hk : k ≤ 5) : ∀ w r v, r < w → v < 2 ^ 31 → k + r ≤ 5 → xlL n0 w (nI k) (nI v) (nI (k + r)) M = some (nI (v / 27 ^ r % 27), M)
  | 0, r, v, h, _, _ => by omega
  | w + 1, r, v, h, hv, h5 => by
    show bX8_letterOf_4 n0 (xlL n0 w) (nI k) (nI v) (nI (k + r)) M = _
    unfold bX8_letterOf_4
    by_cases g : r = 0
    · subst g
      refine eq_t (by rw [Nat.add_zero]; exact Int32.le_refl _) (eq_f (by decide) ?_)
      rw [show (27 : Int32) = nI 27 from rfl, rem_nI (by omega) (by decide), Nat.pow_zero, Nat.div_one]
    · obtain ⟨r', rfl⟩ : ∃ r', r = r' + 1 := ⟨r - 1, by omega⟩
      refine eq_f (nI_ge (by omega) (by omega)) (eq_f (by decide) (eq_e (v' := nI (v / 27)) (by rw [show (27 : Int32) = nI 27 from rfl, nI_div (by omega) (by decide)]) ?_))
      rw [show k + (r' + 1) = (k + r') + 1 by omega, nIm1]
      have e := xlet4 (n0 := n0) (M := M) hk w r' (v / 27) (by omega) (by omega) (by omega)
      rw [Nat.div_div_eq_div_mul, Nat.mul_comm, ← Nat.pow_succ] at e
      exact e
theorem xletter {n0 k v : Nat} {M : Mem} (hn : 1700 ≤ n0) (hk : k ≤ 5) (hv : v < 2 ^ 31) : fX8_letterOf n0 (nI v) (nI k) M = some (nI (v / 27 ^ (5 - k) % 27), M) := by
  have e := xlet4 (n0 := n0) (M := M) hk n0 (5 - k) v (by omega) hv (by omega)
  rw [show k + (5 - k) = 5 by omega] at e
  exact e
theorem lshr {a d : Nat} {D : Int64} (hD : (D.toBitVec.smod 64).toNat = d) (h : a < 2 ^ 62) : lN a >>> D = lN (a / 2 ^ d) := by
  have hd : a / 2 ^ d ≤ a := Nat.div_le_self _ _
  apply Int64.toInt_inj.mp
  have e : (lN a >>> D).toInt = (lN a).toInt >>> d := by
    rw [← hD]
    exact BitVec.toInt_sshiftRight ..
  rw [e, Int.shiftRight_eq_div_pow, pk_lT (by omega), pk_lT (by omega)]
  rfl
theorem sm8 : ∀ r, r < 6 → ((((nI (8 * r)).toInt64 &&& 63) : Int64).toBitVec.smod 64).toNat = 8 * r := by decide +kernel
theorem e256_pos {f : Nat → Nat} {j : Nat} (hj : 0 < j) : 0 < e256 f j := by
  obtain ⟨i, rfl⟩ : ∃ i, j = i + 1 := ⟨j - 1, by omega⟩
  have : e256 f (i + 1) = 256 * e256 f i + (f i + 96) := rfl
  omega
abbrev yltL (n0 : Nat) : Nat → Int32 → Int64 → Int32 → Int64 → Mem → Option (Int32 × Mem) := loopN (bX12_letter_58 n0) (fun _ _ _ _ _ => none)
theorem ylet58 {n0 k n : Nat} {f : Nat → Nat} {M : Mem} (hn6 : n ≤ 6) (hk : k ≤ 5) (hf : ∀ i, i < n → 1 ≤ f i ∧ f i ≤ 26) : ∀ w j, j ≤ n → j < w → yltL n0 w (nI k) (lN (e256 f n)) (nI (n - j)) (lN (e256 f j)) M = some (nI (ltr f n k), M)
  | 0, j, _, h => by omega
  | w + 1, j, hj, h => by
    show bX12_letter_58 n0 (yltL n0 w) (nI k) (lN (e256 f n)) (nI (n - j)) (lN (e256 f j)) M = _
    have bd : ∀ i, i ≤ n → e256 f i < 2 ^ 48 := fun i hi => by
      have e := e256_lt (f := f) (n := i) (fun q hq => (hf q (by omega)).2)
      have : 256 ^ i ≤ 256 ^ 6 := Nat.pow_le_pow_right (by decide) (by omega)
      have : (256 : Nat) ^ 6 = 2 ^ 48 := by decide
      omega
    have bj := bd j hj
    have bn := bd n (Nat.le_refl _)
    unfold bX12_letter_58
    by_cases g : j = 0
    · subst g
      refine eq_t (by rw [show lN (e256 f 0) = zL 0 from rfl, show (0 : Int64) = zL 0 from rfl]; decide) ?_
      rw [Nat.sub_zero]
      unfold ltr
      by_cases z : k < n
      · rw [if_pos z]
        refine eq_t (nI_lt z (by omega)) ?_
        have e1 : (8 : Int32) * (nI n - 1 - nI k) = nI (8 * (n - 1 - k)) := by
          rw [show nI n - 1 = nI (n - 1) by rw [show n = (n - 1) + 1 by omega, nIs]; rfl, nI_subN (by omega), show (8 : Int32) = nI 8 from rfl, nI_mul]
        have e2 := e256_div (f := f) (j := k + 1) (n - 1 - k) (fun i hi => (hf i (by omega)).2)
        rw [show k + 1 + (n - 1 - k) = n by omega] at e2
        have e3 : e256 f (k + 1) = 256 * e256 f k + (f k + 96) := rfl
        obtain ⟨l1, l2⟩ := hf k z
        rw [e1, lshr (sm8 (n - 1 - k) (by omega)) (by omega), show 2 ^ (8 * (n - 1 - k)) = 256 ^ (n - 1 - k) by rw [Nat.pow_mul], e2, show (255 : Int64) = lN 255 from rfl, lAnd, show 255 = 2 ^ 8 - 1 from rfl, Nat.and_two_pow_sub_one_eq_mod, lN_i, e3, show (256 * e256 f k + (f k + 96)) % 2 ^ 8 = (f k - 1) + 97 by omega, show (97 : Int32) = nI 97 from rfl, nI_subN (by omega), Nat.add_sub_cancel, show nI (f k - 1) + 1 = nI (f k - 1 + 1) from nI_add _ 1, show f k - 1 + 1 = f k by omega]
      · rw [if_neg z]
        exact eq_f (fun u => z ((nI_ltI (by omega) (by omega)).mp u)) rfl
    · obtain ⟨i, rfl⟩ : ∃ i, j = i + 1 := ⟨j - 1, by omega⟩
      have ps := e256_pos (f := f) (j := i + 1) (by omega)
      have e3 : e256 f (i + 1) = 256 * e256 f i + (f i + 96) := rfl
      obtain ⟨l1, l2⟩ := hf i (by omega)
      refine eq_f ?_ (eq_e (v' := lN (e256 f i)) ?_ ?_)
      · have lp : (0 : Int64) < lN (e256 f (i + 1)) := (pk_lLT (a := 0) (b := e256 f (i + 1)) (by decide) (by omega)).mpr ps
        unfold lg_cmp
        rw [if_pos lp]
        decide
      · rw [lshr (d := 8) (by decide) (by omega), e3]
        congr 1
        omega
      · rw [show nI (n - (i + 1)) + 1 = nI (n - (i + 1) + 1) from nI_add _ 1, show n - (i + 1) + 1 = n - i by omega]
        exact ylet58 hn6 hk hf w i (by omega) (by omega)
theorem nm2 {n0 v w k : Nat} {MX MY : Mem} (hn : 1700 ≤ n0) (hk : k ≤ 5) (h : WR v w) : ∃ r, fX8_letterOf n0 (nI v) (nI k) MX = some (r, MX) ∧ fX12_letter_58 n0 (nI k) (lN w) 0 (lN w) MY = some (r, MY) := by
  have hv := h.v_lt
  obtain ⟨f, n, n1, n6, hf, rfl, rfl⟩ := h
  refine ⟨nI (ltr f n k), ?_, ?_⟩
  · rw [xletter hn hk hv, ltr_v n6 hk hf]
  · have e := ylet58 (n0 := n0) (k := k) (M := MY) n6 hk hf n0 n (Nat.le_refl _) (by omega)
    rw [Nat.sub_self] at e
    exact e
theorem cLetter {n0 : Nat} {x y z : Int32} {MX MY : Mem} (hn : 1700 ≤ n0) (h : R n0 MX MY) : Cal n0 (fX11_letter n0 x y z MX) (fX12_letter n0 x y z MY) := by
  have h0 := h
  obtain ⟨q, b, T, nr, C, m, pm, s, h⟩ := h
  obtain ⟨h1, h2, h3, h4, _⟩ := id h
  obtain ⟨o1, o2, o3, _⟩ := h1.2.2.2.1.2.1
  have hb := h1.2.2.2.2.1.2.2.1
  have h13 := h1.2.2.2.2.1.2.2.2.1
  have cb : (nI b).toNatClampNeg = b := nI_clamp (by omega)
  have ob : ¬ oob (nI b) 2 := nI_in (by omega) (by decide)
  obtain ⟨⟨t1, t2, t3⟩, ⟨c1, c2, c3⟩, ⟨d1, d2, d3⟩⟩ := h1.2.2.2.2.2.1.1
  unfold fX11_letter fX12_letter
  -- the letter's number
  rcases yisc (n0 := n0) 6 (x := z) (hi := 5) (by decide) (by decide) with ⟨k, hk, rfl, ek⟩ | ⟨zk, ek⟩
  · have xk : ∀ {α : Type} {a c : α}, (if nI k < 0 then a else if nI k < (6 : Int32) then c else a) = c := fun {α a c} => eq_f (nI_nn (by omega)) (eq_t (nI_lt (b := 6) hk (by decide)) rfl)
    rw [xk]
    rcases yisc (n0 := n0) 3 (x := x) (hi := 2) (by decide) (by decide) with ⟨sx, hs, rfl, es⟩ | ⟨zs, es⟩
    · have two : ∀ {n off arr cap : Nat} {fi : Nat → Int64} {X Y : Option (Int32 × Mem)}, n ≤ 6 → NmS cap n (gA MX (q + off)) fi → fX12_manyOf n0 (gI MY 13) (nI sx) MY = some (nI n, MY) → (∀ i, i < n → fX12_nameOf n0 (gI MY 13) (nI sx) (nI i) MY = some (fi i, MY)) → (∀ i r, i < n → y = nI i → fX8_letterOf n0 (gA MX (q + off) i) (nI k) MX = some (r, MX) → X = some (r, MX)) → (y < 0 ∨ nI n ≤ y → X = some (-1, MX)) → Y = ((fX12_is n0 (nI sx) (0 : Int32) (2 : Int32) MY).bind fun z3 => if z3.1 = 0 then some ((-1 : Int32), z3.2) else (fX12_manyOf n0 (gI z3.2 13) (nI sx) z3.2).bind fun z17 => (fX12_is n0 y (0 : Int32) (z17.1 - (1 : Int32)) z17.2).bind fun z22 => if z22.1 = 0 then some ((-1 : Int32), z22.2) else (fX12_is n0 (nI k) (0 : Int32) (5 : Int32) z22.2).bind fun z31 => if z31.1 = 0 then some ((-1 : Int32), z31.2) else (fX12_nameOf n0 (gI z31.2 13) (nI sx) y z31.2).bind fun z46 => fX12_letter_58 n0 (nI k) z46.1 (0 : Int32) z46.1 z46.2) → Cal n0 X Y := fun {n off arr cap fi X Y} hn6 hN hM hNm hX hX0 hY => by
        rcases yis (n0 := n0) (n := n) (x := y) (hi := nI n - 1) (by omega) rfl with ⟨i, hi, rfl, ei⟩ | ⟨zi, ei⟩
        · obtain ⟨v, w, hw, e1, e2⟩ := hN.2 i hi
          obtain ⟨r, r1, r2⟩ := nm2 (n0 := n0) (k := k) (MX := MX) (MY := MY) hn (by omega) hw
          refine Cal.same (r := r) h0 (hX i r hi rfl (by rw [e1]; exact r1)) (hY.trans (eq_b (es MY) (eq_f (show ¬ (1 : Int32) = 0 by decide) (eq_b hM (eq_b (ei MY) (eq_f (show ¬ (1 : Int32) = 0 by decide) (eq_b (ek MY) (eq_f (show ¬ (1 : Int32) = 0 by decide) (eq_b (hNm i hi) ?_)))))))))
          show fX12_letter_58 n0 (nI k) (fi i) 0 (fi i) MY = _
          rw [e2]
          exact r2
        · exact Cal.same (r := -1) h0 (hX0 zi) (hY.trans (eq_b (es MY) (eq_f (show ¬ (1 : Int32) = 0 by decide) (eq_b hM (eq_b (ei MY) (eq_t rfl rfl))))))
      rcases (show sx = 0 ∨ sx = 1 ∨ sx = 2 by omega) with rfl | rfl | rfl
      · refine two (n := T.nt) (off := 1) (arr := 2) (cap := 6) (fi := fun i => gB MY 18 (6 * b + i)) o1 t3 ?_ (fun i hi => ?_) (fun i r hi hy hr => ?_) (fun zi => ?_) rfl
        · unfold fX12_manyOf
          rw [h13]
          exact eq_t rfl (eq_f ob (by rw [cb, t2]))
        · unfold fX12_nameOf
          rw [h13, y6Ix]
          exact eq_t rfl (eq_f (nI_in (by omega) (by decide)) (by rw [nI_clamp (by omega)]))
        · subst hy
          refine eq_t rfl (eq_b (z := (1, MX)) (by rw [h1.2.1]; exact xTht t1 o1 hi) (eq_f (show ¬ (1 : Int32) = 0 by decide) (eq_f (nI_in (by omega) (by decide)) (eq_b (z := (r, MX)) ?_ rfl))))
          show fX8_letterOf n0 (gA MX (gR MX 1 + 1) (nI i).toNatClampNeg) (nI k) MX = _
          rw [h1.2.1, nI_clamp (by omega)]
          exact hr
        · exact eq_t rfl (eq_b (z := (0, MX)) (by rw [h1.2.1]; exact xThf t1 zi) (eq_t rfl rfl))
      · refine two (n := T.nc) (off := 4) (arr := 5) (cap := 5) (fi := fun i => gB MY 19 (5 * b + i)) (by omega) c3 ?_ (fun i hi => ?_) (fun i r hi hy hr => ?_) (fun zi => ?_) rfl
        · unfold fX12_manyOf
          rw [h13]
          exact eq_f (by decide) (eq_t rfl (eq_f ob (by rw [cb, c2])))
        · unfold fX12_nameOf
          rw [h13, yIx]
          exact eq_f (by decide) (eq_t rfl (eq_f (nI_in (by omega) (by decide)) (by rw [nI_clamp (by omega)])))
        · subst hy
          refine eq_f (by decide) (eq_t rfl (eq_b (z := (1, MX)) (by rw [h1.2.1]; exact xCot c1 (by omega) hi) (eq_f (show ¬ (1 : Int32) = 0 by decide) (eq_f (nI_in (by omega) (by decide)) (eq_b (z := (r, MX)) ?_ rfl)))))
          show fX8_letterOf n0 (gA MX (gR MX 1 + 4) (nI i).toNatClampNeg) (nI k) MX = _
          rw [h1.2.1, nI_clamp (by omega)]
          exact hr
        · exact eq_f (by decide) (eq_t rfl (eq_b (z := (0, MX)) (by rw [h1.2.1]; exact xCof c1 zi) (eq_t rfl rfl)))
      · refine two (n := T.nd) (off := 9) (arr := 10) (cap := 6) (fi := fun i => gB MY 20 (6 * b + i)) o3 d3 ?_ (fun i hi => ?_) (fun i r hi hy hr => ?_) (fun zi => ?_) rfl
        · unfold fX12_manyOf
          rw [h13]
          exact eq_f (by decide) (eq_f (by decide) (eq_f ob (by rw [cb, d2])))
        · unfold fX12_nameOf
          rw [h13, y6Ix]
          exact eq_f (by decide) (eq_f (by decide) (eq_f (nI_in (by omega) (by decide)) (by rw [nI_clamp (by omega)])))
        · subst hy
          refine eq_f (by decide) (eq_f (by decide) (eq_t rfl (eq_b (z := (1, MX)) (by rw [h1.2.1]; exact xDot d1 o3 hi) (eq_f (show ¬ (1 : Int32) = 0 by decide) (eq_f (nI_in (by omega) (by decide)) (eq_b (z := (r, MX)) ?_ rfl))))))
          show fX8_letterOf n0 (gA MX (gR MX 1 + 9) (nI i).toNatClampNeg) (nI k) MX = _
          rw [h1.2.1, nI_clamp (by omega)]
          exact hr
        · exact eq_f (by decide) (eq_f (by decide) (eq_t rfl (eq_b (z := (0, MX)) (by rw [h1.2.1]; exact xDof d1 zi) (eq_t rfl rfl))))
    · refine Cal.same (r := -1) h0 ?_ (eq_b (es MY) (eq_t rfl rfl))
      refine eq_f ?_ (eq_f ?_ (eq_f ?_ rfl))
      · rintro rfl; exact absurd zs (by decide)
      · rintro rfl; exact absurd zs (by decide)
      · rintro rfl; exact absurd zs (by decide)
  · have xk : ∀ {α : Type} {a c : α}, (if z < 0 then a else if z < (6 : Int32) then c else a) = a := fun {α a c} => by
      by_cases g : z < 0
      · exact eq_t g rfl
      · refine eq_f g (eq_f (fun u => ?_) rfl)
        have := zk.resolve_left g
        rw [i_le] at this
        rw [i_lt] at u
        have a1 : (nI 6).toInt = 6 := rfl
        have a2 : (6 : Int32).toInt = 6 := rfl
        omega
    refine Cal.same (r := -1) h0 xk ?_
    rcases yisc (n0 := n0) 3 (x := x) (hi := 2) (by decide) (by decide) with ⟨sx, hs, rfl, es⟩ | ⟨zs, es⟩
    · refine eq_b (es MY) (eq_f (show ¬ (1 : Int32) = 0 by decide) ?_)
      obtain ⟨n, hn6, hM⟩ : ∃ n, n ≤ 6 ∧ fX12_manyOf n0 (gI MY 13) (nI sx) MY = some (nI n, MY) := by
        unfold fX12_manyOf
        rw [h13]
        rcases (show sx = 0 ∨ sx = 1 ∨ sx = 2 by omega) with rfl | rfl | rfl
        · exact ⟨T.nt, o1, eq_t rfl (eq_f ob (by rw [cb, t2]))⟩
        · exact ⟨T.nc, by omega, eq_f (by decide) (eq_t rfl (eq_f ob (by rw [cb, c2])))⟩
        · exact ⟨T.nd, o3, eq_f (by decide) (eq_f (by decide) (eq_f ob (by rw [cb, d2])))⟩
      refine eq_b hM ?_
      rcases yis (n0 := n0) (n := n) (x := y) (hi := nI n - 1) (by omega) rfl with ⟨i, hi, rfl, ei⟩ | ⟨zi, ei⟩
      · exact eq_b (ei MY) (eq_f (show ¬ (1 : Int32) = 0 by decide) (eq_b (ek MY) (eq_t rfl rfl)))
      · exact eq_b (ei MY) (eq_t rfl rfl)
    · exact eq_b (es MY) (eq_t rfl rfl)
