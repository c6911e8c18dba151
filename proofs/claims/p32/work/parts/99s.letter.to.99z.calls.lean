section
/-! LETTERS OF NAMES ON BOTH SIDES -/
theorem e27_div {f : Nat → Nat} {j : Nat} : ∀ r, (∀ i, i < j + r → f i ≤ 26) → e27 f (j + r) / 27 ^ r = e27 f j
  | 0, _ => Nat.div_one _
  | r + 1, h => by
    have e : e27 f (j + (r + 1)) = 27 * e27 f (j + r) + f (j + r) := rfl
    have l := h (j + r) (by omega)
    rw [e, Nat.pow_succ, Nat.mul_comm (27 ^ r) 27, ← Nat.div_div_eq_div_mul, show (27 * e27 f (j + r) + f (j + r)) / 27 = e27 f (j + r) by omega]
    exact e27_div r (fun i hi => h i (by omega))
theorem e256_div {f : Nat → Nat} {j : Nat} : ∀ r, (∀ i, i < j + r → f i ≤ 26) → e256 f (j + r) / 256 ^ r = e256 f j
  | 0, _ => Nat.div_one _
  | r + 1, h => by
    have e : e256 f (j + (r + 1)) = 256 * e256 f (j + r) + (f (j + r) + 96) := rfl
    have l := h (j + r) (by omega)
    rw [e, Nat.pow_succ, Nat.mul_comm (256 ^ r) 256, ← Nat.div_div_eq_div_mul, show (256 * e256 f (j + r) + (f (j + r) + 96)) / 256 = e256 f (j + r) by omega]
    exact e256_div r (fun i hi => h i (by omega))
/-- letter k of a word of n letters -/
def ltr (f : Nat → Nat) (n k : Nat) : Nat := if k < n then f k else 0
theorem ltr_v {f : Nat → Nat} {n k : Nat} (hn : n ≤ 6) (hk : k ≤ 5) (hf : ∀ i, i < n → 1 ≤ f i ∧ f i ≤ 26) : e27 f n * 27 ^ (6 - n) / 27 ^ (5 - k) % 27 = ltr f n k := by
  unfold ltr
  by_cases g : k < n
  · rw [if_pos g, show 5 - k = (6 - n) + (n - 1 - k) by omega, Nat.pow_add, ← Nat.div_div_eq_div_mul, Nat.mul_div_cancel _ (Nat.pow_pos (by decide))]
    have e := e27_div (f := f) (j := k + 1) (n - 1 - k) (fun i hi => (hf i (by omega)).2)
    rw [show k + 1 + (n - 1 - k) = n by omega] at e
    rw [e]
    have e2 : e27 f (k + 1) = 27 * e27 f k + f k := rfl
    have l := (hf k g).2
    rw [e2]
    omega
  · rw [if_neg g, show 6 - n = (5 - k) + (k + 1 - n) by omega, Nat.pow_add, Nat.mul_comm (27 ^ (5 - k)), ← Nat.mul_assoc, Nat.mul_div_cancel _ (Nat.pow_pos (by decide)), show k + 1 - n = (k - n) + 1 by omega, Nat.pow_succ, ← Nat.mul_assoc]
    exact Nat.mul_mod_left _ _
abbrev xlL (n0 : Nat) : Nat → Int32 → Int32 → Int32 → Mem → Option (Int32 × Mem) := loopN (bX8_letterOf_4 n0) (fun _ _ _ _ => none)
theorem xlet4 {n0 k : Nat} {M : Mem} (hk : k ≤ 5) : ∀ w r v, r < w → v < 2 ^ 31 → k + r ≤ 5 → xlL n0 w (nI k) (nI v) (nI (k + r)) M = some (nI (v / 27 ^ r % 27), M)
  | 0, r, v, h, _, _ => by omega
  | w + 1, r, v, h, hv, h5 => by
    show bX8_letterOf_4 n0 (xlL n0 w) (nI k) (nI v) (nI (k + r)) M = _
    unfold bX8_letterOf_4
    by_cases g : r = 0
    · subst g
      refine eq_t (by rw [Nat.add_zero]; exact Int32.le_refl _) (eq_f (by decide) ?_)
      rw [show (27 : Int32) = nI 27 from rfl, rem_nI (by omega) (by decide), Nat.pow_zero, Nat.div_one]
    · obtain ⟨r', rfl⟩ : ∃ r', r = r' + 1 := ⟨r - 1, by omega⟩
      refine eq_f (nI_ge (by omega) (by omega)) (eq_f (by decide) (eq_e (v' := nI (v / 27)) (by rw [show (27 : Int32) = nI 27 from rfl, nI_div (by omega) (by decide)]) ?_))
      rw [show k + (r' + 1) = (k + r') + 1 by omega, nIm1]
      have e := xlet4 (n0 := n0) (M := M) hk w r' (v / 27) (by omega) (by omega) (by omega)
      rw [Nat.div_div_eq_div_mul, Nat.mul_comm, ← Nat.pow_succ] at e
      exact e
theorem xletter {n0 k v : Nat} {M : Mem} (hn : 1700 ≤ n0) (hk : k ≤ 5) (hv : v < 2 ^ 31) : fX8_letterOf n0 (nI v) (nI k) M = some (nI (v / 27 ^ (5 - k) % 27), M) := by
  have e := xlet4 (n0 := n0) (M := M) hk n0 (5 - k) v (by omega) hv (by omega)
  rw [show k + (5 - k) = 5 by omega] at e
  exact e
theorem lshr {a d : Nat} {D : Int64} (hD : (D.toBitVec.smod 64).toNat = d) (h : a < 2 ^ 62) : lN a >>> D = lN (a / 2 ^ d) := by
  have hd : a / 2 ^ d ≤ a := Nat.div_le_self _ _
  apply Int64.toInt_inj.mp
  have e : (lN a >>> D).toInt = (lN a).toInt >>> d := by
    rw [← hD]
    exact BitVec.toInt_sshiftRight ..
  rw [e, Int.shiftRight_eq_div_pow, pk_lT (by omega), pk_lT (by omega)]
  rfl
theorem sm8 : ∀ r, r < 6 → ((((nI (8 * r)).toInt64 &&& 63) : Int64).toBitVec.smod 64).toNat = 8 * r := by decide +kernel
theorem e256_pos {f : Nat → Nat} {j : Nat} (hj : 0 < j) : 0 < e256 f j := by
  obtain ⟨i, rfl⟩ : ∃ i, j = i + 1 := ⟨j - 1, by omega⟩
  have : e256 f (i + 1) = 256 * e256 f i + (f i + 96) := rfl
  omega
abbrev yltL (n0 : Nat) : Nat → Int32 → Int64 → Int32 → Int64 → Mem → Option (Int32 × Mem) := loopN (bX12_letter_58 n0) (fun _ _ _ _ _ => none)
theorem ylet58 {n0 k n : Nat} {f : Nat → Nat} {M : Mem} (hn6 : n ≤ 6) (hk : k ≤ 5) (hf : ∀ i, i < n → 1 ≤ f i ∧ f i ≤ 26) : ∀ w j, j ≤ n → j < w → yltL n0 w (nI k) (lN (e256 f n)) (nI (n - j)) (lN (e256 f j)) M = some (nI (ltr f n k), M)
  | 0, j, _, h => by omega
  | w + 1, j, hj, h => by
    show bX12_letter_58 n0 (yltL n0 w) (nI k) (lN (e256 f n)) (nI (n - j)) (lN (e256 f j)) M = _
    have bd : ∀ i, i ≤ n → e256 f i < 2 ^ 48 := fun i hi => by
      have e := e256_lt (f := f) (n := i) (fun q hq => (hf q (by omega)).2)
      have : 256 ^ i ≤ 256 ^ 6 := Nat.pow_le_pow_right (by decide) (by omega)
      have : (256 : Nat) ^ 6 = 2 ^ 48 := by decide
      omega
    have bj := bd j hj
    have bn := bd n (Nat.le_refl _)
    unfold bX12_letter_58
    by_cases g : j = 0
    · subst g
      refine eq_t (by rw [show lN (e256 f 0) = zL 0 from rfl, show (0 : Int64) = zL 0 from rfl]; decide) ?_
      rw [Nat.sub_zero]
      unfold ltr
      by_cases z : k < n
      · rw [if_pos z]
        refine eq_t (nI_lt z (by omega)) ?_
        have e1 : (8 : Int32) * (nI n - 1 - nI k) = nI (8 * (n - 1 - k)) := by
          rw [show nI n - 1 = nI (n - 1) by rw [show n = (n - 1) + 1 by omega, nIs]; rfl, nI_subN (by omega), show (8 : Int32) = nI 8 from rfl, nI_mul]
        have e2 := e256_div (f := f) (j := k + 1) (n - 1 - k) (fun i hi => (hf i (by omega)).2)
        rw [show k + 1 + (n - 1 - k) = n by omega] at e2
        have e3 : e256 f (k + 1) = 256 * e256 f k + (f k + 96) := rfl
        obtain ⟨l1, l2⟩ := hf k z
        rw [e1, lshr (sm8 (n - 1 - k) (by omega)) (by omega), show 2 ^ (8 * (n - 1 - k)) = 256 ^ (n - 1 - k) by rw [Nat.pow_mul], e2, show (255 : Int64) = lN 255 from rfl, lAnd, show 255 = 2 ^ 8 - 1 from rfl, Nat.and_two_pow_sub_one_eq_mod, lN_i, e3, show (256 * e256 f k + (f k + 96)) % 2 ^ 8 = (f k - 1) + 97 by omega, show (97 : Int32) = nI 97 from rfl, nI_subN (by omega), Nat.add_sub_cancel, show nI (f k - 1) + 1 = nI (f k - 1 + 1) from nI_add _ 1, show f k - 1 + 1 = f k by omega]
      · rw [if_neg z]
        exact eq_f (fun u => z ((nI_ltI (by omega) (by omega)).mp u)) rfl
    · obtain ⟨i, rfl⟩ : ∃ i, j = i + 1 := ⟨j - 1, by omega⟩
      have ps := e256_pos (f := f) (j := i + 1) (by omega)
      have e3 : e256 f (i + 1) = 256 * e256 f i + (f i + 96) := rfl
      obtain ⟨l1, l2⟩ := hf i (by omega)
      refine eq_f ?_ (eq_e (v' := lN (e256 f i)) ?_ ?_)
      · have lp : (0 : Int64) < lN (e256 f (i + 1)) := (pk_lLT (a := 0) (b := e256 f (i + 1)) (by decide) (by omega)).mpr ps
        unfold lg_cmp
        rw [if_pos lp]
        decide
      · rw [lshr (d := 8) (by decide) (by omega), e3]
        congr 1
        omega
      · rw [show nI (n - (i + 1)) + 1 = nI (n - (i + 1) + 1) from nI_add _ 1, show n - (i + 1) + 1 = n - i by omega]
        exact ylet58 hn6 hk hf w i (by omega) (by omega)
theorem nm2 {n0 v w k : Nat} {MX MY : Mem} (hn : 1700 ≤ n0) (hk : k ≤ 5) (h : WR v w) : ∃ r, fX8_letterOf n0 (nI v) (nI k) MX = some (r, MX) ∧ fX12_letter_58 n0 (nI k) (lN w) 0 (lN w) MY = some (r, MY) := by
  have hv := h.v_lt
  obtain ⟨f, n, n1, n6, hf, rfl, rfl⟩ := h
  refine ⟨nI (ltr f n k), ?_, ?_⟩
  · rw [xletter hn hk hv, ltr_v n6 hk hf]
  · have e := ylet58 (n0 := n0) (k := k) (M := MY) n6 hk hf n0 n (Nat.le_refl _) (by omega)
    rw [Nat.sub_self] at e
    exact e
theorem cLetter {n0 : Nat} {x y z : Int32} {MX MY : Mem} (hn : 1700 ≤ n0) (h : R n0 MX MY) : Cal n0 (fX11_letter n0 x y z MX) (fX12_letter n0 x y z MY) := by
  have h0 := h
  obtain ⟨q, b, T, nr, C, m, pm, s, h⟩ := h
  obtain ⟨h1, h2, h3, h4, _⟩ := id h
  obtain ⟨o1, o2, o3, _⟩ := h1.2.2.2.1.2.1
  have hb := h1.2.2.2.2.1.2.2.1
  have h13 := h1.2.2.2.2.1.2.2.2.1
  have cb : (nI b).toNatClampNeg = b := nI_clamp (by omega)
  have ob : ¬ oob (nI b) 2 := nI_in (by omega) (by decide)
  obtain ⟨⟨t1, t2, t3⟩, ⟨c1, c2, c3⟩, ⟨d1, d2, d3⟩⟩ := h1.2.2.2.2.2.1.1
  unfold fX11_letter fX12_letter
  -- the letter's number
  rcases yisc (n0 := n0) 6 (x := z) (hi := 5) (by decide) (by decide) with ⟨k, hk, rfl, ek⟩ | ⟨zk, ek⟩
  · have xk : ∀ {α : Type} {a c : α}, (if nI k < 0 then a else if nI k < (6 : Int32) then c else a) = c := fun {α a c} => eq_f (nI_nn (by omega)) (eq_t (nI_lt (b := 6) hk (by decide)) rfl)
    rw [xk]
    rcases yisc (n0 := n0) 3 (x := x) (hi := 2) (by decide) (by decide) with ⟨sx, hs, rfl, es⟩ | ⟨zs, es⟩
    · have two : ∀ {n off arr cap : Nat} {fi : Nat → Int64} {X Y : Option (Int32 × Mem)}, n ≤ 6 → NmS cap n (gA MX (q + off)) fi → fX12_manyOf n0 (gI MY 13) (nI sx) MY = some (nI n, MY) → (∀ i, i < n → fX12_nameOf n0 (gI MY 13) (nI sx) (nI i) MY = some (fi i, MY)) → (∀ i r, i < n → y = nI i → fX8_letterOf n0 (gA MX (q + off) i) (nI k) MX = some (r, MX) → X = some (r, MX)) → (y < 0 ∨ nI n ≤ y → X = some (-1, MX)) → Y = ((fX12_is n0 (nI sx) (0 : Int32) (2 : Int32) MY).bind fun z3 => if z3.1 = 0 then some ((-1 : Int32), z3.2) else (fX12_manyOf n0 (gI z3.2 13) (nI sx) z3.2).bind fun z17 => (fX12_is n0 y (0 : Int32) (z17.1 - (1 : Int32)) z17.2).bind fun z22 => if z22.1 = 0 then some ((-1 : Int32), z22.2) else (fX12_is n0 (nI k) (0 : Int32) (5 : Int32) z22.2).bind fun z31 => if z31.1 = 0 then some ((-1 : Int32), z31.2) else (fX12_nameOf n0 (gI z31.2 13) (nI sx) y z31.2).bind fun z46 => fX12_letter_58 n0 (nI k) z46.1 (0 : Int32) z46.1 z46.2) → Cal n0 X Y := fun {n off arr cap fi X Y} hn6 hN hM hNm hX hX0 hY => by
        rcases yis (n0 := n0) (n := n) (x := y) (hi := nI n - 1) (by omega) rfl with ⟨i, hi, rfl, ei⟩ | ⟨zi, ei⟩
        · obtain ⟨v, w, hw, e1, e2⟩ := hN.2 i hi
          obtain ⟨r, r1, r2⟩ := nm2 (n0 := n0) (k := k) (MX := MX) (MY := MY) hn (by omega) hw
          refine Cal.same (r := r) h0 (hX i r hi rfl (by rw [e1]; exact r1)) (hY.trans (eq_b (es MY) (eq_f (show ¬ (1 : Int32) = 0 by decide) (eq_b hM (eq_b (ei MY) (eq_f (show ¬ (1 : Int32) = 0 by decide) (eq_b (ek MY) (eq_f (show ¬ (1 : Int32) = 0 by decide) (eq_b (hNm i hi) ?_)))))))))
          show fX12_letter_58 n0 (nI k) (fi i) 0 (fi i) MY = _
          rw [e2]
          exact r2
        · exact Cal.same (r := -1) h0 (hX0 zi) (hY.trans (eq_b (es MY) (eq_f (show ¬ (1 : Int32) = 0 by decide) (eq_b hM (eq_b (ei MY) (eq_t rfl rfl))))))
      rcases (show sx = 0 ∨ sx = 1 ∨ sx = 2 by omega) with rfl | rfl | rfl
      · refine two (n := T.nt) (off := 1) (arr := 2) (cap := 6) (fi := fun i => gB MY 18 (6 * b + i)) o1 t3 ?_ (fun i hi => ?_) (fun i r hi hy hr => ?_) (fun zi => ?_) rfl
        · unfold fX12_manyOf
          rw [h13]
          exact eq_t rfl (eq_f ob (by rw [cb, t2]))
        · unfold fX12_nameOf
          rw [h13, y6Ix]
          exact eq_t rfl (eq_f (nI_in (by omega) (by decide)) (by rw [nI_clamp (by omega)]))
        · subst hy
          refine eq_t rfl (eq_b (z := (1, MX)) (by rw [h1.2.1]; exact xTht t1 o1 hi) (eq_f (show ¬ (1 : Int32) = 0 by decide) (eq_f (nI_in (by omega) (by decide)) (eq_b (z := (r, MX)) ?_ rfl))))
          show fX8_letterOf n0 (gA MX (gR MX 1 + 1) (nI i).toNatClampNeg) (nI k) MX = _
          rw [h1.2.1, nI_clamp (by omega)]
          exact hr
        · exact eq_t rfl (eq_b (z := (0, MX)) (by rw [h1.2.1]; exact xThf t1 zi) (eq_t rfl rfl))
      · refine two (n := T.nc) (off := 4) (arr := 5) (cap := 5) (fi := fun i => gB MY 19 (5 * b + i)) (by omega) c3 ?_ (fun i hi => ?_) (fun i r hi hy hr => ?_) (fun zi => ?_) rfl
        · unfold fX12_manyOf
          rw [h13]
          exact eq_f (by decide) (eq_t rfl (eq_f ob (by rw [cb, c2])))
        · unfold fX12_nameOf
          rw [h13, yIx]
          exact eq_f (by decide) (eq_t rfl (eq_f (nI_in (by omega) (by decide)) (by rw [nI_clamp (by omega)])))
        · subst hy
          refine eq_f (by decide) (eq_t rfl (eq_b (z := (1, MX)) (by rw [h1.2.1]; exact xCot c1 (by omega) hi) (eq_f (show ¬ (1 : Int32) = 0 by decide) (eq_f (nI_in (by omega) (by decide)) (eq_b (z := (r, MX)) ?_ rfl)))))
          show fX8_letterOf n0 (gA MX (gR MX 1 + 4) (nI i).toNatClampNeg) (nI k) MX = _
          rw [h1.2.1, nI_clamp (by omega)]
          exact hr
        · exact eq_f (by decide) (eq_t rfl (eq_b (z := (0, MX)) (by rw [h1.2.1]; exact xCof c1 zi) (eq_t rfl rfl)))
      · refine two (n := T.nd) (off := 9) (arr := 10) (cap := 6) (fi := fun i => gB MY 20 (6 * b + i)) o3 d3 ?_ (fun i hi => ?_) (fun i r hi hy hr => ?_) (fun zi => ?_) rfl
        · unfold fX12_manyOf
          rw [h13]
          exact eq_f (by decide) (eq_f (by decide) (eq_f ob (by rw [cb, d2])))
        · unfold fX12_nameOf
          rw [h13, y6Ix]
          exact eq_f (by decide) (eq_f (by decide) (eq_f (nI_in (by omega) (by decide)) (by rw [nI_clamp (by omega)])))
        · subst hy
          refine eq_f (by decide) (eq_f (by decide) (eq_t rfl (eq_b (z := (1, MX)) (by rw [h1.2.1]; exact xDot d1 o3 hi) (eq_f (show ¬ (1 : Int32) = 0 by decide) (eq_f (nI_in (by omega) (by decide)) (eq_b (z := (r, MX)) ?_ rfl))))))
          show fX8_letterOf n0 (gA MX (gR MX 1 + 9) (nI i).toNatClampNeg) (nI k) MX = _
          rw [h1.2.1, nI_clamp (by omega)]
          exact hr
        · exact eq_f (by decide) (eq_f (by decide) (eq_t rfl (eq_b (z := (0, MX)) (by rw [h1.2.1]; exact xDof d1 zi) (eq_t rfl rfl))))
    · refine Cal.same (r := -1) h0 ?_ (eq_b (es MY) (eq_t rfl rfl))
      refine eq_f ?_ (eq_f ?_ (eq_f ?_ rfl))
      · rintro rfl; exact absurd zs (by decide)
      · rintro rfl; exact absurd zs (by decide)
      · rintro rfl; exact absurd zs (by decide)
  · have xk : ∀ {α : Type} {a c : α}, (if z < 0 then a else if z < (6 : Int32) then c else a) = a := fun {α a c} => by
      by_cases g : z < 0
      · exact eq_t g rfl
      · refine eq_f g (eq_f (fun u => ?_) rfl)
        have := zk.resolve_left g
        rw [i_le] at this
        rw [i_lt] at u
        have a1 : (nI 6).toInt = 6 := rfl
        have a2 : (6 : Int32).toInt = 6 := rfl
        omega
    refine Cal.same (r := -1) h0 xk ?_
    rcases yisc (n0 := n0) 3 (x := x) (hi := 2) (by decide) (by decide) with ⟨sx, hs, rfl, es⟩ | ⟨zs, es⟩
    · refine eq_b (es MY) (eq_f (show ¬ (1 : Int32) = 0 by decide) ?_)
      obtain ⟨n, hn6, hM⟩ : ∃ n, n ≤ 6 ∧ fX12_manyOf n0 (gI MY 13) (nI sx) MY = some (nI n, MY) := by
        unfold fX12_manyOf
        rw [h13]
        rcases (show sx = 0 ∨ sx = 1 ∨ sx = 2 by omega) with rfl | rfl | rfl
        · exact ⟨T.nt, o1, eq_t rfl (eq_f ob (by rw [cb, t2]))⟩
        · exact ⟨T.nc, by omega, eq_f (by decide) (eq_t rfl (eq_f ob (by rw [cb, c2])))⟩
        · exact ⟨T.nd, o3, eq_f (by decide) (eq_f (by decide) (eq_f ob (by rw [cb, d2])))⟩
      refine eq_b hM ?_
      rcases yis (n0 := n0) (n := n) (x := y) (hi := nI n - 1) (by omega) rfl with ⟨i, hi, rfl, ei⟩ | ⟨zi, ei⟩
      · exact eq_b (ei MY) (eq_f (show ¬ (1 : Int32) = 0 by decide) (eq_b (ek MY) (eq_t rfl rfl)))
      · exact eq_b (ei MY) (eq_t rfl rfl)
    · exact eq_b (es MY) (eq_t rfl rfl)
end
section
/-! WAYS AND WALKS COME TO AN END -/
theorem lpC {σ ρ : Type} {L : Nat → Nat → σ → Option ρ} {F : σ → Option ρ} {n : Nat} {I : σ → Prop} (hs : ∀ w k s, k < n → I s → ∃ s', L (w + 1) k s = L w (k + 1) s' ∧ I s') (he : ∀ w s, I s → ∃ s', L (w + 1) n s = F s' ∧ I s') : ∀ w k s, k ≤ n → n < w + k → I s → ∃ s', L w k s = F s' ∧ I s'
  | 0, k, s, hk, hw, _ => by omega
  | w + 1, k, s, hk, hw, hI => by
    by_cases g : k = n
    · rw [g]; exact he w s hI
    · obtain ⟨s', e, h'⟩ := hs w k s (by omega) hI
      rw [e]
      exact lpC hs he w (k + 1) s' (by omega) (by omega) h'
theorem lpG {σ ρ : Type} {L : Nat → Nat → σ → Option ρ} {n : Nat} {I : σ → Prop} {Q : ρ → Prop} (hs : ∀ w k s, k < n → I s → (okP (L (w + 1) k s) Q ∨ ∃ s', L (w + 1) k s = L w (k + 1) s' ∧ I s')) (he : ∀ w s, I s → okP (L (w + 1) n s) Q) : ∀ w k s, k ≤ n → n < w + k → I s → okP (L w k s) Q
  | 0, k, s, hk, hw, _ => by omega
  | w + 1, k, s, hk, hw, hI => by
    by_cases g : k = n
    · rw [g]; exact he w s hI
    · rcases hs w k s (by omega) hI with h | ⟨s', e, h'⟩
      · exact h
      · rw [e]
        exact lpG hs he w (k + 1) s' (by omega) (by omega) h'
def CalN (n0 : Nat) (f g : Option (Int32 × Mem)) : Prop := ∃ r r' MX' MY', f = some (r, MX') ∧ g = some (r', MY') ∧ R n0 MX' MY'
theorem Cal.n {n0 : Nat} {f g : Option (Int32 × Mem)} (h : Cal n0 f g) : CalN n0 f g := by
  obtain ⟨r, MX', MY', h1, h2, h3⟩ := h
  exact ⟨r, r, MX', MY', h1, h2, h3⟩
theorem CalN.scr {n0 q b : Nat} {T : TP} {nr C m : Nat} {pm : Nat → Int32 × Nat} {s : Nat × List (Nat × Nat)} {MX MY : Mem} {f g : Option (Int32 × Mem)} (h : RR n0 q b T nr C m pm s MX MY) (e1 : okP f (fun z => XF scA MX z.2)) (e2 : okP g (fun z => YF scP MY z.2)) : CalN n0 f g := by
  obtain ⟨⟨r, X⟩, a1, a2⟩ := e1
  obtain ⟨⟨r', Y⟩, b1, b2⟩ := e2
  exact ⟨r, r', X, Y, a1, b1, q, b, T, nr, C, m, pm, s, h.scr a2 b2⟩
def XRd (q nc nr : Nat) (M : Mem) : Prop := gI M (128 * q + 8) = nI nr ∧ nr ≤ 10 ∧ ∀ k, k < nr → ∃ a c v, a < nc ∧ c < nc ∧ 1 ≤ v ∧ v ≤ 30 ∧ gA M (q + 6) k = nI a ∧ gA M (q + 7) k = nI c ∧ gA M (q + 8) k = nI v
theorem XRd.tw {q nc nr : Nat} {M M' : Mem} (h : XRd q nc nr M) (t : xTw q M M') : XRd q nc nr M' := ⟨(t.1 _ (by omega) (by omega)).trans h.1, h.2.1, fun k hk => by
  rw [t.2 _ (by omega) (by omega), t.2 _ (by omega) (by omega), t.2 _ (by omega) (by omega)]
  exact h.2.2 k hk⟩
theorem RT.rd {n0 q b : Nat} {T : TP} {nr C : Nat} {MX MY : Mem} (h : RT n0 q b T nr C MX MY) : XRd q T.nc nr MX := by
  obtain ⟨c1, c2, c3⟩ := h.2.2.2.2.2.1.2.2.2.2.1
  refine ⟨c1, c3.1, fun k hk => ?_⟩
  obtain ⟨a, c, v, a1, a2, _, a4, a5, a6, a7, a8⟩ := c3.2.1 k hk
  exact ⟨a, c, v, a1, a2, a4, a5, a6, a7, a8⟩
theorem scA31 : ∀ a, scA a → a < 31 ∨ 63 ≤ a := fun a z => by unfold scA at z; omega
/-- distances are numbers -/
def D19 (M : Mem) : Prop := ∀ c, c < 5 → ∃ d, d ≤ 1000000 ∧ gA M 19 c = nI d
def WyI (M0 M : Mem) : Prop := XF scA M0 M ∧ D19 M
theorem xshort {n0 a c v : Nat} {M0 M : Mem} (ha : a < 5) (hc : c < 5) (hv : v ≤ 30) (h : WyI M0 M) : ∃ M', fX10_shorten n0 (nI a) (nI c) (nI v) M = some M' ∧ WyI M0 M' := by
  have ca : (nI a).toNatClampNeg = a := nI_clamp (by omega)
  have cc : (nI c).toNatClampNeg = c := nI_clamp (by omega)
  obtain ⟨da, la, ea⟩ := h.2 a ha
  obtain ⟨dc, lc, ec⟩ := h.2 c hc
  refine ⟨sA M 19 c (nI (min dc (da + v))), ?_, h.1.a (by unfold scA; omega), fun j hj => ?_⟩
  · unfold fX10_shorten
    simp only [ca, cc, ea, ec, nI_add]
    rw [imin_nI (by omega) (by omega)]
    exact eq_f (nI_in hc (by decide)) (eq_f (nI_in ha (by decide)) (eq_f (nI_in hc (by decide)) rfl))
  · rw [gA_sA, if_pos rfl]
    by_cases z : j = c
    · rw [if_pos z]; exact ⟨_, by omega, rfl⟩
    · rw [if_neg z]; exact h.2 j hj
theorem xsteps {n0 q nr a c : Nat} {T : TP} {M : Mem} (hn : 1700 ≤ n0) (hT : XT n0 q T M) (hR : XRd q T.nc nr M) (ha : a < T.nc) (hc : c < T.nc) : okP (fX10_stepsOf n0 q (nI a) (nI c) M) (fun z => XF scA M z.2 ∧ (z.1 = -1 ∨ ∃ d, d < 1000000 ∧ z.1 = nI d)) := by
  obtain ⟨o1, o2, o3, _⟩ := hT.2.1
  have hq := hT.1.1
  have r10 := hR.2.1
  have tw : ∀ M', XF scA M M' → xTw q M M' := fun M' f => f.tw hq scA31
  -- one road after the other
  have l49 : ∀ (k37 : Int32 → Int32 → Mem → Option (Int32 × Mem)) (x4 : Int32) (M1 : Mem), WyI M M1 → ∃ M2, loopN (bX10_stepsOf_49 n0 q k37) (fun _ _ _ _ => none) n0 (nI c) x4 (nI 0) M1 = k37 (nI c) (x4 + 1) M2 ∧ WyI M M2 := fun k37 x4 M1 hI => by
    refine lpC (L := fun w k s => loopN (bX10_stepsOf_49 n0 q k37) (fun _ _ _ _ => none) w (nI c) x4 (nI k) s) (F := fun s => k37 (nI c) (x4 + 1) s) (n := nr) (I := WyI M) (fun w k s hk hs => ?_) (fun w s hs => ?_) n0 0 M1 (by omega) (by omega) hI
    · show ∃ s', bX10_stepsOf_49 n0 q k37 (loopN (bX10_stepsOf_49 n0 q k37) (fun _ _ _ _ => none) w) (nI c) x4 (nI k) s = _ ∧ _
      have Rs := hR.tw (tw s hs.1)
      obtain ⟨a', c', v, a1, a2, _, a4, a5, a6, a7⟩ := Rs.2.2 k hk
      have ck : (nI k).toNatClampNeg = k := nI_clamp (by omega)
      have ok : ¬ oob (nI k) 10 := nI_in (by omega) (by decide)
      obtain ⟨s1, e1, i1⟩ := xshort (n0 := n0) (show a' < 5 by omega) (show c' < 5 by omega) a4 hs
      have R1 := hR.tw (tw s1 i1.1)
      have t1 : gA s1 (q + 6) k = nI a' ∧ gA s1 (q + 7) k = nI c' ∧ gA s1 (q + 8) k = nI v := by
        have := (tw s1 i1.1)
        have h0 := tw s hs.1
        rw [this.2 _ (by omega) (by omega), this.2 _ (by omega) (by omega), this.2 _ (by omega) (by omega), ← h0.2 (q + 6) (by omega) (by omega), ← h0.2 (q + 7) (by omega) (by omega), ← h0.2 (q + 8) (by omega) (by omega)]
        exact ⟨a5, a6, a7⟩
      obtain ⟨s2, e2, i2⟩ := xshort (n0 := n0) (show c' < 5 by omega) (show a' < 5 by omega) a4 i1
      refine ⟨s2, ?_, i2⟩
      unfold bX10_stepsOf_49
      refine eq_f (by rw [Rs.1]; exact nI_ge hk (by omega)) (eq_f ok (eq_f ok (eq_f ok (eq_b (z := s1) (by rw [ck, a5, a6, a7]; exact e1) (eq_f ok (eq_f ok (eq_f ok (eq_b (z := s2) (by rw [ck, t1.1, t1.2.1, t1.2.2]; exact e2) ?_))))))))
      rw [show nI k + 1 = nI (k + 1) from nI_add k 1]
    · show ∃ s', bX10_stepsOf_49 n0 q k37 (loopN (bX10_stepsOf_49 n0 q k37) (fun _ _ _ _ => none) w) (nI c) x4 (nI nr) s = _ ∧ _
      have Rs := hR.tw (tw s hs.1)
      refine ⟨s, ?_, hs⟩
      unfold bX10_stepsOf_49
      exact eq_t (by rw [Rs.1]; exact Int32.le_refl _) rfl
  -- round after round
  have l37 : ∀ M1, WyI M M1 → okP (fX10_stepsOf_37 n0 q (nI c) 0 M1) (fun z => XF scA M z.2 ∧ (z.1 = -1 ∨ ∃ d, d < 1000000 ∧ z.1 = nI d)) := fun M1 hI => by
    refine lpG (L := fun w k s => loopN (bX10_stepsOf_37 n0 q) (fun _ _ _ => none) w (nI c) (nI k) s) (n := T.nc) (I := WyI M) (fun w k s hk hs => Or.inr ?_) (fun w s hs => ?_) n0 0 M1 (by omega) (by omega) hI
    · show ∃ s', bX10_stepsOf_37 n0 q (loopN (bX10_stepsOf_37 n0 q) (fun _ _ _ => none) w) (nI c) (nI k) s = _ ∧ _
      obtain ⟨s1, e1, i1⟩ := l49 (loopN (bX10_stepsOf_37 n0 q) (fun _ _ _ => none) w) (nI k) s hs
      refine ⟨s1, ?_, i1⟩
      unfold bX10_stepsOf_37
      have := (hT.tw (tw s hs.1)).2.2.1
      refine eq_f (by rw [this]; exact nI_ge hk (by omega)) (e1.trans ?_)
      rw [show nI k + 1 = nI (k + 1) from nI_add k 1]
      rfl
    · show okP (bX10_stepsOf_37 n0 q (loopN (bX10_stepsOf_37 n0 q) (fun _ _ _ => none) w) (nI c) (nI T.nc) s) _
      have Ts := (hT.tw (tw s hs.1)).2.2.1
      obtain ⟨d, d1, d2⟩ := hs.2 c (by omega)
      have cc : (nI c).toNatClampNeg = c := nI_clamp (by omega)
      unfold bX10_stepsOf_37
      refine okP_t (by rw [Ts]; exact Int32.le_refl _) (okP_be (xCot Ts (by omega) hc) (okP_f (show ¬ (1 : Int32) = 0 by decide) (okP_f (nI_in (by omega) (by decide)) (okP_ite (fun _ => okP_some ⟨hs.1, Or.inl rfl⟩) (fun z => okP_f (nI_in (by omega) (by decide)) (okP_some ⟨hs.1, Or.inr ⟨d, ?_, ?_⟩⟩))))))
      · rw [cc, d2] at z
        rcases Nat.lt_or_ge d 1000000 with y | y
        · exact y
        · exact absurd (nI_le (a := 1000000) y (by omega)) z
      · rw [cc, d2]
  -- the first row
  have l3 : ∀ w k M1, k ≤ 5 → 5 < w + k → XF scA M M1 → (∀ j, j < k → ∃ d, d ≤ 1000000 ∧ gA M1 19 j = nI d) → okP (loopN (bX10_stepsOf_3 n0 q) (fun _ _ _ _ => none) w (nI a) (nI c) (nI k) M1) (fun z => XF scA M z.2 ∧ (z.1 = -1 ∨ ∃ d, d < 1000000 ∧ z.1 = nI d)) := fun w => by
    induction w with
    | zero => intro k M1 hk hw _ _; omega
    | succ w ih =>
      intro k M1 hk hw hf hd
      show okP (bX10_stepsOf_3 n0 q (loopN (bX10_stepsOf_3 n0 q) (fun _ _ _ _ => none) w) (nI a) (nI c) (nI k) M1) _
      unfold bX10_stepsOf_3
      by_cases g : k = 5
      · exact okP_t (by rw [g]; decide) (l37 M1 ⟨hf, fun j hj => hd j (by omega)⟩)
      · have ck : (nI k).toNatClampNeg = k := nI_clamp (by omega)
        have st : ∀ d, d ≤ 1000000 → okP (fX10_stepsOf_27 n0 q (loopN (bX10_stepsOf_3 n0 q) (fun _ _ _ _ => none) w) (nI a) (nI c) (nI k) (nI k) (nI d) M1) (fun z => XF scA M z.2 ∧ (z.1 = -1 ∨ ∃ d, d < 1000000 ∧ z.1 = nI d)) := fun d hd2 => by
          unfold fX10_stepsOf_27
          refine okP_f (nI_in (by omega) (by decide)) (okP_bnd ?_)
          rw [ck, show nI k + 1 = nI (k + 1) from nI_add k 1]
          refine ih (k + 1) _ (by omega) (by omega) (hf.a (by unfold scA; omega)) (fun j hj => ?_)
          rw [gA_sA, if_pos rfl]
          by_cases z : j = k
          · rw [if_pos z]; exact ⟨d, hd2, rfl⟩
          · rw [if_neg z]; exact hd j (by omega)
        refine okP_f (nI_ge (b := 5) (by omega) (by decide)) (okP_ite (fun _ => st 0 (by omega)) (fun _ => st 1000000 (by omega)))
  exact l3 n0 0 M (by omega) (by omega) XF.r (fun j hj => by omega)
theorem y25Ix {b a c : Nat} : (25 : Int32) * nI b + (5 : Int32) * nI a + nI c = nI (25 * b + 5 * a + c) := by
  rw [show (25 : Int32) = nI 25 from rfl, nI_mul, show (5 : Int32) = nI 5 from rfl, nI_mul, nI_add, nI_add]
theorem yway {n0 q b : Nat} {T : TP} {nr C : Nat} {MX MY : Mem} (h : RT n0 q b T nr C MX MY) (x y : Int32) : ∃ r, fX12_way n0 x y MY = some (r, MY) := by
  have h13 := h.2.2.2.2.1.2.2.2.1
  have hb := h.2.2.2.2.1.2.2.1
  have o2 := h.2.2.2.1.2.1.2.1
  unfold fX12_way
  rcases isCo h x with ⟨a, ha, rfl, _, e2⟩ | ⟨_, _, e2⟩
  · rcases isCo h y with ⟨c, hc, rfl, _, e4⟩ | ⟨_, _, e4⟩
    · have ea : fX12_at n0 (gI MY 13) (nI a) (nI c) MY = some (nI (25 * b + 5 * a + c), MY) := by
        unfold fX12_at
        rw [h13, y25Ix]
      have oi : ¬ oob (nI (25 * b + 5 * a + c)) 50 := nI_in (by omega) (by decide)
      by_cases g : (100000000 : Int32) ≤ gA MY 9 (nI (25 * b + 5 * a + c)).toNatClampNeg
      · exact ⟨_, eq_b e2 (eq_f (show ¬ (1 : Int32) = 0 by decide) (eq_b e4 (eq_f (show ¬ (1 : Int32) = 0 by decide) (eq_b ea (eq_f oi (eq_t g rfl))))))⟩
      · exact ⟨_, eq_b e2 (eq_f (show ¬ (1 : Int32) = 0 by decide) (eq_b e4 (eq_f (show ¬ (1 : Int32) = 0 by decide) (eq_b ea (eq_f oi (eq_f g (eq_b ea (eq_f oi rfl))))))))⟩
    · exact ⟨_, eq_b e2 (eq_f (show ¬ (1 : Int32) = 0 by decide) (eq_b e4 (eq_t rfl rfl)))⟩
  · exact ⟨_, eq_b e2 (eq_t rfl rfl)⟩
theorem nWay {n0 : Nat} {x y : Int32} {MX MY : Mem} (hn : 1700 ≤ n0) (h : R n0 MX MY) : CalN n0 (fX11_way n0 x y MX) (fX12_way n0 x y MY) := by
  obtain ⟨q, b, T, nr, C, m, pm, s, h⟩ := h
  have h1 := h.1
  obtain ⟨r, er⟩ := yway h1 x y
  refine CalN.scr h ?_ ⟨_, er, YF.r⟩
  unfold fX11_way
  rcases isCo h1 x with ⟨a, ha, rfl, e1, _⟩ | ⟨_, e1, _⟩
  · rcases isCo h1 y with ⟨c, hc, rfl, e3, _⟩ | ⟨_, e3, _⟩
    · obtain ⟨⟨r, X⟩, a1, a2, _⟩ := xsteps (n0 := n0) hn h1.2.2.2.1 h1.rd ha hc
      exact ⟨_, eq_b e1 (eq_f (show ¬ (1 : Int32) = 0 by decide) (eq_b e3 (eq_f (show ¬ (1 : Int32) = 0 by decide) (eq_b (by rw [h1.2.1]; exact a1) rfl)))), a2⟩
    · exact ⟨_, eq_b e1 (eq_f (show ¬ (1 : Int32) = 0 by decide) (eq_b e3 (eq_t rfl rfl))), XF.r⟩
  · exact ⟨_, eq_b e1 (eq_t rfl rfl), XF.r⟩
theorem nArrive {n0 : Nat} {x y : Int32} {MX MY : Mem} (hn : 1700 ≤ n0) (h : R n0 MX MY) : CalN n0 (fX11_arrive n0 x y MX) (fX12_arrive n0 x y MY) := by
  have h0 := h
  obtain ⟨q, b, T, nr, C, m, pm, s, h⟩ := h
  obtain ⟨h1, h2, h3, h4, _⟩ := id h
  have hm := h2.1
  obtain ⟨o1, o2, o3, _⟩ := h1.2.2.2.1.2.1
  -- the reference: a way, then later
  have yA : okP (fX12_arrive n0 x y MY) (fun z => YF scP MY z.2) := by
    obtain ⟨r, er⟩ := yway h1 x y
    unfold fX12_arrive
    refine okP_be er (okP_ite (fun _ => okP_some YF.r) (fun _ => ?_))
    -- later comes to an end whatever is asked
    have yl : ∀ z, okP (fX12_later n0 y z MY) (fun u => YF scP MY u.2) := fun z => by
      unfold fX12_later
      rcases isCo h1 y with ⟨c, hc, rfl, _, e2⟩ | ⟨_, _, e2⟩
      · rcases yah (n0 := n0) (lo := 0) (hi := 60) z h4.1.1 hm (by decide) (by decide) with ⟨k, _, k2, k3, rfl, e⟩ | ⟨_, e⟩
        · obtain ⟨Y1, b1, b2, b3⟩ := ycopyD (n0 := n0) (v := 1) (u := 0) hn (by decide) (by decide) (by decide) o2 (by have := h2.2.2.l; omega) h4
          obtain ⟨Y2, c1, c2⟩ := ylat (n0 := n0) (b := b) (m := m) hn hc h2.2.1 k3 n0 0 Y1 s (by omega) (by omega) (h1.2.2.2.2.1.yf b3 lP28) b2 h2.2.2
          exact ⟨_, eq_b e2 (eq_f (show ¬ (1 : Int32) = 0 by decide) (eq_b e (eq_f (show ¬ (1 : Int32) = 0 by decide) (eq_b b1 c1)))), lsc (b3.tr c2)⟩
        · exact ⟨_, eq_b e2 (eq_f (show ¬ (1 : Int32) = 0 by decide) (eq_b e (eq_t rfl rfl))), YF.r⟩
      · exact ⟨_, eq_b e2 (eq_t rfl rfl), YF.r⟩
    obtain ⟨⟨r', Y⟩, a1, a2⟩ := yl r
    exact ⟨_, eq_b a1 rfl, a2⟩
  refine CalN.scr h ?_ yA
  unfold fX11_arrive
  rcases isCo h1 x with ⟨a, ha, rfl, e1, _⟩ | ⟨_, e1, _⟩
  · rcases isCo h1 y with ⟨c, hc, rfl, e3, _⟩ | ⟨_, e3, _⟩
    · obtain ⟨⟨r, X⟩, a1, a2, a3⟩ := xsteps (n0 := n0) hn h1.2.2.2.1 h1.rd ha hc
      refine okP_be e1 (okP_f (show ¬ (1 : Int32) = 0 by decide) (okP_be e3 (okP_f (show ¬ (1 : Int32) = 0 by decide) (okP_be (z := (r, X)) (by rw [h1.2.1]; exact a1) ?_))))
      rcases a3 with a3 | ⟨d, d1, a3⟩
      · exact okP_t a3 (okP_some a2)
      · have er : r = nI d := a3
        subst er
        refine okP_f (nI_m1 (by omega)) (okP_ite (fun _ => okP_some a2) (fun g => ?_))
        have d60 : d ≤ 60 := by
          rcases Nat.lt_or_ge 60 d with y | y
          · exact absurd (nI_lt (a := 60) y (by omega)) g
          · exact y
        have TX := h1.2.2.2.1.xf a2 scA31
        have SX' := h3.fr a2 (fun a z y => by unfold scA at z; unfold stA at y; omega)
        have eb : fX11_isBeyond n0 (nI d) X = some (bI (9999 - m < d), X) := by
          unfold fX11_isBeyond
          rw [SX'.2.2.1, show (9999 : Int32) - nI m = nI (9999 - m) from nI_subN hm]
          by_cases z : d ≤ 9999 - m
          · rw [bI_f (by omega)]; exact eq_t (nI_le z (by omega)) rfl
          · rw [bI_t (by omega)]; exact eq_f (nI_ge (by omega) (by omega)) rfl
        refine okP_be eb ?_
        by_cases z : 9999 - m < d
        · exact okP_f (show ¬ bI (9999 - m < d) = 0 by rw [bI_t z]; decide) (okP_some a2)
        · obtain ⟨X1, b1, b2, b3⟩ := xfc (n0 := n0) (q1 := 26) (most := d) hn TX SX' h2.2.1 hc hm d60 (Or.inl rfl)
          exact okP_t (show bI (9999 - m < d) = 0 from bI_f z) (okP_be b1 (okP_f (nI_in (by omega) (by decide)) (okP_some (a2.tr (b3.wk (fun a y => by unfold scA; omega))))))
    · exact ⟨_, eq_b e1 (eq_f (show ¬ (1 : Int32) = 0 by decide) (eq_b e3 (eq_t rfl rfl))), XF.r⟩
  · exact ⟨_, eq_b e1 (eq_t rfl rfl), XF.r⟩
end
section
/-! EARLY COMES TO AN END -/
theorem xout {n0 q nr c : Nat} {T : TP} {M : Mem} (hn : 1700 ≤ n0) (hT : XT n0 q T M) (hR : XRd q T.nc nr M) (hc : c < T.nc) : okP (fX10_goOutFrom n0 q (nI c) M) (fun M' => XF scA M M') := by
  have hq := hT.1.1
  have r10 := hR.2.1
  have tw : ∀ M', XF scA M M' → xTw q M M' := fun M' f => f.tw hq scA31
  have l27 : ∀ (k11 : Int32 → Mem → Option Mem) (k : Nat) (M1 : Mem), k ≤ 60 → XF scA M M1 → ∃ M2, loopN (bX10_goOutFrom_27 n0 q k11) (fun _ _ _ => none) n0 (nI k) (nI 0) M1 = k11 (nI (k + 1)) M2 ∧ XF scA M M2 := fun k11 k M1 hk hI => by
    refine lpC (L := fun w r s => loopN (bX10_goOutFrom_27 n0 q k11) (fun _ _ _ => none) w (nI k) (nI r) s) (F := fun s => k11 (nI (k + 1)) s) (n := nr) (I := XF scA M) (fun w r s hr hs => ?_) (fun w s hs => ?_) n0 0 M1 (by omega) (by omega) hI
    · show ∃ s', bX10_goOutFrom_27 n0 q k11 (loopN (bX10_goOutFrom_27 n0 q k11) (fun _ _ _ => none) w) (nI k) (nI r) s = _ ∧ _
      have Rs := hR.tw (tw s hs)
      obtain ⟨a', c', v, a1, a2, a3, a4, a5, a6, a7⟩ := Rs.2.2 r hr
      have cr : (nI r).toNatClampNeg = r := nI_clamp (by omega)
      have or : ¬ oob (nI r) 10 := nI_in (by omega) (by decide)
      have r1 : nI r + 1 = nI (r + 1) := nI_add r 1
      have st : ¬ gI s (128 * q + 8) ≤ nI r := by rw [Rs.1]; exact nI_ge hr (by omega)
      by_cases g : v ≤ k
      · have ac : fX10_across n0 q (nI r) (gA s 20 (nI (k - v)).toNatClampNeg) s = some ((((gA s 20 (nI (k - v)).toNatClampNeg >>> (nI a' &&& 31)) &&& (1 : Int32)) <<< (nI c' &&& 31)) ||| (((gA s 20 (nI (k - v)).toNatClampNeg >>> (nI c' &&& 31)) &&& (1 : Int32)) <<< (nI a' &&& 31)), s) := by
          unfold fX10_across
          exact eq_f or (eq_e (v' := nI a') (by rw [cr, a5]) (eq_f or (eq_e (v' := nI c') (by rw [cr, a6]) rfl)))
        refine ⟨?wt1, ?_, ?_⟩
        rotate_left
        · unfold bX10_goOutFrom_27 fX10_goOutFrom_74
          refine eq_f st (eq_f or (eq_e (v' := nI (k - v)) (by rw [cr, a7, nI_subN g]) (eq_f (nI_nn (by omega)) (eq_f (nI_in (by omega) (by decide)) (eq_f (nI_in (by omega) (by decide)) (eq_b ac (eq_f (nI_in (by omega) (by decide)) ?_)))))))
          rw [r1]
        · exact hs.a (by unfold scA; omega)
      · refine ⟨s, ?_, hs⟩
        unfold bX10_goOutFrom_27 fX10_goOutFrom_74
        refine eq_f st (eq_f or (eq_n (eq_t ?_ ?_)))
        · rw [cr, a7, i_lt, nz, nz, zI_sub, zI_toInt (by omega) (by omega), show (0 : Int32).toInt = 0 from rfl]
          omega
        · rw [r1]
    · refine ⟨s, ?_, hs⟩
      show bX10_goOutFrom_27 n0 q k11 (loopN (bX10_goOutFrom_27 n0 q k11) (fun _ _ _ => none) w) (nI k) (nI nr) s = _
      have Rs := hR.tw (tw s hs)
      unfold bX10_goOutFrom_27
      refine eq_t (by rw [Rs.1]; exact Int32.le_refl _) ?_
      rw [show nI k + 1 = nI (k + 1) from nI_add k 1]
  have l11 : ∀ M1, XF scA M M1 → okP (loopN (bX10_goOutFrom_11 n0 q) (fun _ _ => none) n0 (nI 1) M1) (fun M' => XF scA M M') := fun M1 hI => by
    refine lpG (L := fun w k s => loopN (bX10_goOutFrom_11 n0 q) (fun _ _ => none) w (nI k) s) (n := 61) (I := XF scA M) (fun w k s hk hs => Or.inr ?_) (fun w s hs => ?_) n0 1 M1 (by omega) (by omega) hI
    · show ∃ s', bX10_goOutFrom_11 n0 q (loopN (bX10_goOutFrom_11 n0 q) (fun _ _ => none) w) (nI k) s = _ ∧ _
      obtain ⟨s2, e2, i2⟩ := l27 (loopN (bX10_goOutFrom_11 n0 q) (fun _ _ => none) w) k (sA s 20 (nI k).toNatClampNeg 0) (by omega) (hs.a (by unfold scA; omega))
      refine ⟨s2, ?_, i2⟩
      unfold bX10_goOutFrom_11
      exact eq_f (fun z => by have := (nI_ltI (a := 60) (by decide) (by omega)).mp z; omega) (eq_f (nI_in (by omega) (by decide)) (eq_n e2))
    · show okP (bX10_goOutFrom_11 n0 q (loopN (bX10_goOutFrom_11 n0 q) (fun _ _ => none) w) (nI 61) s) _
      unfold bX10_goOutFrom_11
      exact okP_t (by decide) (okP_some hs)
  unfold fX10_goOutFrom
  exact okP_f (by decide) (okP_bnd (l11 _ (XF.r.a (by unfold scA; omega))))
theorem xearly {n0 q nr c m : Nat} {T : TP} {pm : Nat → Int32 × Nat} {s : Nat × List (Nat × Nat)} {M : Mem} (hn : 1700 ≤ n0) (hT : XT n0 q T M) (hS : SX q T.nc T.nd m pm s M) (hO : PsO T.nt T.nc pm) (hR : XRd q T.nc nr M) (hq1 : gR M 1 = q) (hc : c < T.nc) (hm : m ≤ 9999) : okP ((fX11_foresee n0 26 (nI c) (60 : Int32) M).bind fun z21 => (fX10_goOutFrom n0 (gR z21.2 1) (nI c) z21.2).bind fun z34 => fX11_early_39 n0 (nI c) z21.1 (1 : Int32) z34) (fun z => XF scA M z.2) := by
  obtain ⟨X1, a1, a2, a3⟩ := xfc (n0 := n0) (q1 := 26) (most := 60) hn hT hS hO hc hm (by decide) (Or.inl rfl)
  have f1 : XF scA M X1 := a3.wk (fun a y => by unfold scA; omega)
  have T1 := hT.xf f1 scA31
  obtain ⟨X2, b1, b2⟩ := xout (n0 := n0) hn T1 (hR.tw (f1.tw hT.1.1 scA31)) hc
  refine okP_be a1 (okP_be (z := X2) (by rw [show gR X1 1 = q by rw [f1.1]; exact hq1]; exact b1) ?_)
  have f2 := f1.tr b2
  show okP (loopN (bX11_early_39 n0) (fun _ _ _ _ => none) n0 (nI c) (nI (min 60 (9999 - m))) (nI 1) X2) (fun z => XF scA M z.2)
  refine lpG (L := fun w k s => loopN (bX11_early_39 n0) (fun _ _ _ _ => none) w (nI c) (nI (min 60 (9999 - m))) (nI k) s) (n := min 60 (9999 - m) + 1) (I := XF scA M) (fun w k s hk hs => ?_) (fun w s hs => ?_) n0 1 X2 (by omega) (by omega) f2
  · show okP (bX11_early_39 n0 (loopN (bX11_early_39 n0) (fun _ _ _ _ => none) w) (nI c) (nI (min 60 (9999 - m))) (nI k) s) _ ∨ ∃ s', bX11_early_39 n0 (loopN (bX11_early_39 n0) (fun _ _ _ _ => none) w) (nI c) (nI (min 60 (9999 - m))) (nI k) s = _ ∧ _
    have k1 : nI k + 1 = nI (k + 1) := nI_add k 1
    have st : ¬ nI (min 60 (9999 - m)) < nI k := fun z => by have := (nI_ltI (by omega) (by omega)).mp z; omega
    obtain ⟨r, er⟩ : ∃ r, fX10_canBeAt n0 (nI c) (nI k) s = some (r, s) := by
      unfold fX10_canBeAt
      by_cases z : ((gA s 20 (nI k).toNatClampNeg >>> (nI c &&& 31)) &&& (1 : Int32)) = 1
      · exact ⟨1, eq_f (nI_nn (by omega)) (eq_f (fun z => by have := (nI_ltI (a := 60) (by decide) (by omega)).mp z; omega) (eq_f (nI_in (by omega) (by decide)) (eq_t z rfl)))⟩
      · exact ⟨0, eq_f (nI_nn (by omega)) (eq_f (fun z => by have := (nI_ltI (a := 60) (by decide) (by omega)).mp z; omega) (eq_f (nI_in (by omega) (by decide)) (eq_f z rfl)))⟩
    unfold bX11_early_39 fX11_early_73
    rw [k1]
    by_cases z : r = 0
    · exact Or.inr ⟨s, eq_f st (eq_b er (eq_t z rfl)), hs⟩
    · by_cases y : gA s 26 (Int32.toNatClampNeg 0) ≤ gA s 26 (nI k).toNatClampNeg
      · exact Or.inr ⟨s, eq_f st (eq_b er (eq_f z (eq_f (nI_in (by omega) (by decide)) (eq_f (by decide) (eq_t y rfl))))), hs⟩
      · exact Or.inl ⟨_, eq_f st (eq_b er (eq_f z (eq_f (nI_in (by omega) (by decide)) (eq_f (by decide) (eq_f y rfl))))), hs⟩
  · show okP (bX11_early_39 n0 (loopN (bX11_early_39 n0) (fun _ _ _ _ => none) w) (nI c) (nI (min 60 (9999 - m))) (nI (min 60 (9999 - m) + 1)) s) _
    unfold bX11_early_39
    exact okP_t (nI_lt (by omega) (by omega)) (okP_some hs)
def YSt (b : Nat) (M : Mem) : Prop := ∀ a c, a < 5 → c < 5 → ∃ v, v ≤ 30 ∧ gA M 8 (25 * b + 5 * a + c) = nI v
theorem RT.st {n0 q b : Nat} {T : TP} {nr C : Nat} {MX MY : Mem} (h : RT n0 q b T nr C MX MY) : YSt b MY := fun a c ha hc => by
  obtain ⟨c1, c2, c3⟩ := h.2.2.2.2.2.1.2.2.2.2.1
  rw [Nat.add_assoc]
  rcases c3.2.2 a c ha hc with ⟨z, _⟩ | ⟨k, hk, _, z⟩
  · exact ⟨0, by omega, z⟩
  · obtain ⟨_, _, v, _, _, _, _, v2, _, _, v3⟩ := c3.2.1 k hk
    exact ⟨v, v2, (show gA MY 8 (25 * b + (5 * a + c)) = _ from z).trans v3⟩
def eP (a i : Nat) : Prop := lP 1 a i ∨ a = 38
theorem eP28 : ∀ a i, eP a i → 28 ≤ a := fun a i z => by unfold eP lP tP dP at z; omega
theorem ePn : ¬ eP 28 0 := fun z => by unfold eP lP tP dP at z; omega
theorem ePsc {M M' : Mem} (f : YF eP M M') : YF scP M M' := f.wk (fun a i z => z.elim (fun y => Or.inl y) (fun y => Or.inr (Or.inl (by omega))))
theorem le1 {M M' : Mem} (f : YF (lP 1) M M') : YF eP M M' := f.wk (fun _ _ z => Or.inl z)
theorem yearly {n0 b c m : Nat} {T : TP} {pm : Nat → Int32 × Nat} {s : Nat × List (Nat × Nat)} {M : Mem} (hn : 1700 ≤ n0) (hY : YT n0 b T M) (hL : LyD 0 T.nc m pm s M) (hO : PsO T.nt T.nc pm) (hs : sOk T.nd s) (hSt : YSt b M) (hc : c < T.nc) (hm : m ≤ 9999) : okP (fX12_early_21 n0 (nI c) (1 : Int32) M) (fun z => YF eP M z.2) := by
  obtain ⟨o1, o2, o3, _⟩ := hY.2.1
  have hb := hY.2.2.1
  have hl := hs.l
  have h13 : ∀ M', YF eP M M' → gI M' 13 = nI b := fun M' f => by rw [f.2.2.1]; exact hY.2.2.2.1
  have St : ∀ M', YF eP M M' → YSt b M' := fun M' f a c' ha hc' => by
    rw [f.gA (a := 8) (fun i z => by unfold eP lP tP dP at z; omega) (by decide)]
    exact hSt a c' ha hc'
  -- from one corner
  have l44 : ∀ (k21 : Int32 → Int32 → Mem → Option (Int32 × Mem)) (k36 : Int32 → Int32 → Int32 → Mem → Option (Int32 × Mem)) (n a : Nat) (M1 : Mem), 1 ≤ n → n ≤ 60 → a < 5 → YF eP M M1 → ∃ M2, loopN (bX12_early_44 n0 k21 k36) (fun _ _ _ _ _ => none) n0 (nI c) (nI n) (nI a) (nI 0) M1 = k36 (nI c) (nI n) (nI (a + 1)) M2 ∧ YF eP M M2 := fun k21 k36 n a M1 hn1 hn2 ha hI => by
    refine lpC (L := fun w k s => loopN (bX12_early_44 n0 k21 k36) (fun _ _ _ _ _ => none) w (nI c) (nI n) (nI a) (nI k) s) (F := fun s => k36 (nI c) (nI n) (nI (a + 1)) s) (n := 5) (I := YF eP M) (fun w k s hk hs => ?_) (fun w s hs => ?_) n0 0 M1 (by omega) (by omega) hI
    · show ∃ s', bX12_early_44 n0 k21 k36 (loopN (bX12_early_44 n0 k21 k36) (fun _ _ _ _ _ => none) w) (nI c) (nI n) (nI a) (nI k) s = _ ∧ _
      obtain ⟨v, v1, v2⟩ := St s hs a k ha hk
      have ea : fX12_at n0 (gI s 13) (nI a) (nI k) s = some (nI (25 * b + 5 * a + k), s) := by
        unfold fX12_at
        rw [h13 s hs, y25Ix]
      have oi : ¬ oob (nI (25 * b + 5 * a + k)) 50 := nI_in (by omega) (by decide)
      have on : ¬ oob (nI n) 61 := nI_in (by omega) (by decide)
      have cn : (nI n).toNatClampNeg = n := nI_clamp (by omega)
      have k1 : nI k + 1 = nI (k + 1) := nI_add k 1
      have ev : gA s 8 (nI (25 * b + 5 * a + k)).toNatClampNeg = nI v := by rw [nI_clamp (by omega)]; exact v2
      have st : ¬ (5 : Int32) ≤ nI k := nI_ge (b := 5) hk (by decide)
      have go : ∀ u2 u3, fX12_early_110 n0 k21 k36 (loopN (bX12_early_44 n0 k21 k36) (fun _ _ _ _ _ => none) w) (nI c) (nI n) (nI a) (nI k) (nI n) u2 u3 s = loopN (bX12_early_44 n0 k21 k36) (fun _ _ _ _ _ => none) w (nI c) (nI n) (nI a) (nI (k + 1)) (sA s 38 n (u2 ||| u3)) := fun u2 u3 => by
        unfold fX12_early_110
        refine eq_f on (eq_n ?_)
        rw [cn, k1]
      have fs : ∀ u, YF eP M (sA s 38 n u) := fun u => hs.a (Or.inr rfl)
      unfold bX12_early_44
      by_cases g1 : v = 0
      · refine ⟨?wt2, eq_f st (eq_b ea (eq_f oi (eq_e ev (eq_f on (eq_t (by rw [g1]; decide) ?_))))), ?_⟩
        rotate_left
        · unfold fX12_early_109
          exact go _ _
        · exact fs _
      · have g1' : ¬ nI v ≤ 0 := nI_ge (a := 0) (by omega) (by omega)
        by_cases g2 : n < v
        · refine ⟨?wt3, eq_f st (eq_b ea (eq_f oi (eq_e ev (eq_f on (eq_f g1' (eq_t (nI_lt g2 (by omega)) ?_)))))), ?_⟩
          rotate_left
          · unfold fX12_early_109
            exact go _ _
          · exact fs _
        · have g2' : ¬ nI n < nI v := fun z => g2 ((nI_ltI (by omega) (by omega)).mp z)
          have od : ¬ oob (nI n - nI v) 61 := by rw [nI_subN (by omega)]; exact nI_in (by omega) (by decide)
          obtain ⟨r, er⟩ : ∃ r, fX12_has2 n0 (gA s 38 (nI n - nI v).toNatClampNeg) (nI a) s = some (r, s) := by
            unfold fX12_has2
            by_cases z : ((gA s 38 (nI n - nI v).toNatClampNeg >>> (nI a &&& 31)) &&& (1 : Int32)) = 1
            · exact ⟨1, eq_t z rfl⟩
            · exact ⟨0, eq_f z rfl⟩
          by_cases g3 : r = 0
          · refine ⟨?wt4, eq_f st (eq_b ea (eq_f oi (eq_e ev (eq_f on (eq_f g1' (eq_f g2' (eq_f od (eq_b er (eq_t g3 ?_))))))))), ?_⟩
            rotate_left
            · unfold fX12_early_109
              exact go _ _
            · exact fs _
          · refine ⟨?wt5, eq_f st (eq_b ea (eq_f oi (eq_e ev (eq_f on (eq_f g1' (eq_f g2' (eq_f od (eq_b er (eq_f g3 ?_))))))))), ?_⟩
            rotate_left
            · exact go _ _
            · exact fs _
    · refine ⟨s, ?_, hs⟩
      show bX12_early_44 n0 k21 k36 (loopN (bX12_early_44 n0 k21 k36) (fun _ _ _ _ _ => none) w) (nI c) (nI n) (nI a) (nI 5) s = _
      unfold bX12_early_44
      refine eq_t (by decide) ?_
      rw [show nI a + 1 = nI (a + 1) from nI_add a 1]
  -- one minute
  have l36 : ∀ (k21 : Int32 → Int32 → Mem → Option (Int32 × Mem)) (n : Nat) (M1 : Mem), 1 ≤ n → n ≤ 60 → YF eP M M1 → ∃ M2, loopN (bX12_early_36 n0 k21) (fun _ _ _ _ => none) n0 (nI c) (nI n) (nI 0) M1 = k21 (nI c) (nI (n + 1)) M2 ∧ YF eP M M2 := fun k21 n M1 hn1 hn2 hI => by
    refine lpC (L := fun w k s => loopN (bX12_early_36 n0 k21) (fun _ _ _ _ => none) w (nI c) (nI n) (nI k) s) (F := fun s => k21 (nI c) (nI (n + 1)) s) (n := 5) (I := YF eP M) (fun w k s hk hs => ?_) (fun w s hs => ?_) n0 0 M1 (by omega) (by omega) hI
    · show ∃ s', bX12_early_36 n0 k21 (loopN (bX12_early_36 n0 k21) (fun _ _ _ _ => none) w) (nI c) (nI n) (nI k) s = _ ∧ _
      obtain ⟨s2, e2, i2⟩ := l44 k21 (loopN (bX12_early_36 n0 k21) (fun _ _ _ _ => none) w) n k s hn1 hn2 hk hs
      refine ⟨s2, ?_, i2⟩
      unfold bX12_early_36
      exact eq_f (nI_ge (b := 5) hk (by decide)) e2
    · refine ⟨s, ?_, hs⟩
      show bX12_early_36 n0 k21 (loopN (bX12_early_36 n0 k21) (fun _ _ _ _ => none) w) (nI c) (nI n) (nI 5) s = _
      unfold bX12_early_36
      refine eq_t (by decide) ?_
      rw [show nI n + 1 = nI (n + 1) from nI_add n 1]
  -- minutes ahead
  have l145 : ∀ (x2 : Int32) w k M1, k ≤ min 60 (9999 - m) + 1 → 1 ≤ k → min 60 (9999 - m) + 1 < w + k → YF eP M M1 → LyD 1 T.nc (m + (k - 1)) (trP T m pm (k - 1)) s M1 → okP (loopN (bX12_early_145 n0) (fun _ _ _ _ => none) w (nI c) x2 (nI k) M1) (fun z => YF eP M z.2) := fun x2 w => by
    induction w with
    | zero => intro k M1 hk _ hw _ _; omega
    | succ w ih =>
      intro k M1 hk hk1 hw hI hL1
      show okP (bX12_early_145 n0 (loopN (bX12_early_145 n0) (fun _ _ _ _ => none) w) (nI c) x2 (nI k) M1) _
      have m28 : gA M1 28 0 = nI m := m28f hL.1.1 hI ePn
      have Y1 := hY.yf hI eP28
      unfold bX12_early_145 fX12_early_186
      rw [show nI k + 1 = nI (k + 1) from nI_add k 1]
      by_cases g : k = min 60 (9999 - m) + 1
      · exact okP_be (yahF (lo := 1) (hi := 60) m28 hm (by decide) (by decide) (by omega) (by omega)) (okP_t rfl (okP_some hI))
      · obtain ⟨j, rfl⟩ : ∃ j, k = j + 1 := ⟨k - 1, by omega⟩
        rw [Nat.add_sub_cancel] at hL1
        obtain ⟨M2, g1, g2, g3⟩ := ytickD (v := 1) hn Y1 (by decide) hL1 (trP_ok hO j) hs (by omega)
        have f2 := hI.tr (le1 g3)
        obtain ⟨r, er⟩ : ∃ r, fX12_has2 n0 (gA M2 38 (nI (j + 1)).toNatClampNeg) (nI c) M2 = some (r, M2) := by
          unfold fX12_has2
          by_cases z : ((gA M2 38 (nI (j + 1)).toNatClampNeg >>> (nI c &&& 31)) &&& (1 : Int32)) = 1
          · exact ⟨1, eq_t z rfl⟩
          · exact ⟨0, eq_f z rfl⟩
        refine okP_be (yahT (lo := 1) (hi := 60) m28 (by omega) (by omega) (by decide) (by omega)) (okP_f (show ¬ (1 : Int32) = 0 by decide) (okP_be g1 (okP_f (nI_in (by omega) (by decide)) (okP_be er (okP_ite (fun _ => ?_) (fun _ => ?_))))))
        · exact ih (j + 1 + 1) M2 (by omega) (by omega) (by omega) f2 g2
        · obtain ⟨_, M3, e1, e2⟩ := yhr (hY.yf f2 eP28) (v := 1) (by decide) g2.1 (trP_ok hO (j + 1)) (by omega) hc
          have f3 := f2.tr (e2.y : YF eP M2 M3)
          refine okP_be e1 (okP_ite (fun _ => ?_) (fun _ => okP_some f3))
          exact ih (j + 1 + 1) M3 (by omega) (by omega) (by omega) f3 (LyD.fr (P := fun _ _ => False) g2 e2.y o2 (by omega) (fun _ _ z => z.elim))
  refine lpG (L := fun w k s => loopN (bX12_early_21 n0) (fun _ _ _ => none) w (nI c) (nI (k + 1)) s) (n := 60) (I := YF eP M) (fun w k s' hk hs' => ?_) (fun w s' hs' => ?_) n0 0 M (by omega) (by omega) YF.r
  · show okP (bX12_early_21 n0 (loopN (bX12_early_21 n0) (fun _ _ _ => none) w) (nI c) (nI (k + 1)) s') _ ∨ ∃ s'', bX12_early_21 n0 (loopN (bX12_early_21 n0) (fun _ _ _ => none) w) (nI c) (nI (k + 1)) s' = _ ∧ _
    obtain ⟨s2, e2, i2⟩ := l36 (loopN (bX12_early_21 n0) (fun _ _ _ => none) w) (k + 1) (sA s' 38 (nI (k + 1)).toNatClampNeg 0) (by omega) (by omega) (hs'.a (Or.inr rfl))
    refine Or.inr ⟨s2, ?_, i2⟩
    unfold bX12_early_21
    exact eq_f (fun z => by have := (nI_ltI (a := 60) (by decide) (by omega)).mp z; omega) (eq_f (nI_in (by omega) (by decide)) (eq_n e2))
  · show okP (bX12_early_21 n0 (loopN (bX12_early_21 n0) (fun _ _ _ => none) w) (nI c) (nI (60 + 1)) s') _
    have Y1 := hY.yf hs' eP28
    have L1 : LyD 0 T.nc m pm s s' := hL.fr hs' o2 (by omega) (fun a i z y => by unfold eP lP tP dP at z; unfold lP tP dP at y; omega)
    obtain ⟨_, M2, e1, e2⟩ := yhr Y1 (v := 0) (by decide) L1.1 hO (by omega) hc
    have L2 : LyD 0 T.nc m pm s M2 := LyD.fr (P := fun _ _ => False) L1 e2.y o2 (by omega) (fun _ _ z => z.elim)
    obtain ⟨M3, b1, b2, b3⟩ := ycopyD (n0 := n0) (v := 1) (u := 0) hn (by decide) (by decide) (by decide) o2 (by omega) L2
    unfold bX12_early_21
    exact okP_t (by decide) (okP_be e1 (okP_be b1 (l145 _ n0 1 M3 (by omega) (by omega) (by omega) (hs'.tr ((e2.y : YF eP s' M2).tr (le1 b3))) b2)))
theorem nEarly {n0 : Nat} {x : Int32} {MX MY : Mem} (hn : 1700 ≤ n0) (h : R n0 MX MY) : CalN n0 (fX11_early n0 x MX) (fX12_early n0 x MY) := by
  obtain ⟨q, b, T, nr, C, m, pm, s, h⟩ := h
  obtain ⟨h1, h2, h3, h4, _⟩ := id h
  obtain ⟨o1, o2, o3, _⟩ := h1.2.2.2.1.2.1
  have hl := h2.2.2.l
  unfold fX11_early fX12_early
  rcases isCo h1 x with ⟨c, hc, rfl, e1, e2⟩ | ⟨_, e1, e2⟩
  · have f1 : YF eP MY (sA MY 38 (Int32.toNatClampNeg 0) ((1 : Int32) <<< (nI c &&& 31))) := YF.r.a (Or.inr rfl)
    obtain ⟨⟨r, Y⟩, a1, a2⟩ := yearly (n0 := n0) hn (h1.2.2.2.2.1.yf f1 eP28) (h4.fr f1 o2 (by omega) (fun a i z y => by unfold eP lP tP dP at z; unfold lP tP dP at y; omega)) h2.2.1 h2.2.2 (show YSt b (sA MY 38 (Int32.toNatClampNeg 0) ((1 : Int32) <<< (nI c &&& 31))) from fun a c' ha hc' => by rw [gA_sA_ne (by decide)]; exact h1.st a c' ha hc') hc h2.1
    refine CalN.scr h (okP_be e1 (okP_f (show ¬ (1 : Int32) = 0 by decide) (xearly hn h1.2.2.2.1 h3 h2.2.1 h1.rd h1.2.1 hc h2.1))) ⟨_, eq_b e2 (eq_f (show ¬ (1 : Int32) = 0 by decide) (eq_f (by decide) (eq_n a1))), ePsc (f1.tr a2)⟩
  · exact CalN.scr h ⟨_, eq_b e1 (eq_t rfl rfl), XF.r⟩ ⟨_, eq_b e2 (eq_t rfl rfl), YF.r⟩
end
section
/-! ODDS COME TO AN END -/
def CalL (n0 : Nat) (f g : Option (Int64 × Mem)) : Prop := ∃ r r' MX' MY', f = some (r, MX') ∧ g = some (r', MY') ∧ R n0 MX' MY'
theorem CalL.scr {n0 q b : Nat} {T : TP} {nr C m : Nat} {pm : Nat → Int32 × Nat} {s : Nat × List (Nat × Nat)} {MX MY : Mem} {f g : Option (Int64 × Mem)} (h : RR n0 q b T nr C m pm s MX MY) (e1 : okP f (fun z => XF scA MX z.2)) (e2 : okP g (fun z => YF scP MY z.2)) : CalL n0 f g := by
  obtain ⟨⟨r, X⟩, a1, a2⟩ := e1
  obtain ⟨⟨r', Y⟩, b1, b2⟩ := e2
  exact ⟨r, r', X, Y, a1, b1, q, b, T, nr, C, m, pm, s, h.scr a2 b2⟩
theorem nN31 : ∀ a, noN a → a < 31 ∨ 63 ≤ a := fun _ z => z.elim
def OdI (c m : Nat) (M0 : Mem) (s : Int64 × Mem) : Prop := XF noN M0 s.2 ∧ gI s.2 897 = nI c ∧ gI s.2 900 = nI m
theorem xone {n0 q c m h : Nat} {t x1 : Int32} {T : TP} {M : Mem} (hn : 1700 ≤ n0) (hT : XT n0 q T M) (hX : PmX q c t h m M) (hO : PmO T.nt c t h m) (hm : m < 9999) (h1 : gR M 1 = q) : okP (fX11_countRowsOfOne n0 x1 M) (fun z => XF noN M z.2) := by
  have o1 := hT.2.1.1
  obtain ⟨M1, a1, a2, a3⟩ := xgo hT.1 hX hO hm
  have ok := tk_ok (nt := T.nt) (c := c) (m := m + 1) (gF := T.gF) (p := (t, h)) ⟨hO.2.1, hO.2.2.1⟩
  obtain ⟨_, M2, b1, b2, b3⟩ := xhr (hT.1.xf a3 nN31) a2 ⟨hO.1, ok.1, ok.2, by omega⟩
  have lp : ∀ v M3, OdI c (m + 1) M (v, M3) → okP (fX11_countRowsOfOne_26 n0 x1 v M3) (fun z => XF noN M z.2) := fun v M3 hI => by
    refine lpG (L := fun w k s => loopN (bX11_countRowsOfOne_30 n0) (fun _ _ _ _ => none) w x1 s.1 (nI k) s.2) (n := T.nt) (I := OdI c (m + 1) M) (fun w k s hk hs => Or.inr ?_) (fun w s hs => ?_) n0 0 (v, M3) (by omega) (by omega) hI
    · show ∃ s', bX11_countRowsOfOne_30 n0 (loopN (bX11_countRowsOfOne_30 n0) (fun _ _ _ _ => none) w) x1 s.1 (nI k) s.2 = _ ∧ _
      have T1 := hT.xf hs.1 nN31
      have q1 : gR s.2 1 = q := by rw [hs.1.1]; exact h1
      have r1 : gR s.2 896 = q := by rw [hs.1.1]; exact hX.1
      have f1 : XF noN M (hld s.2 (nI c) (nI k) 0 (nI (m + 1))) := hs.1.tr hld_f
      obtain ⟨_, M4, c1, c2, c3⟩ := xhr (hT.1.xf f1 nN31) (hld_p (h := 0) r1) ⟨hO.1, Or.inr ⟨k, hk, rfl⟩, Nat.zero_le _, by omega⟩
      have f4 := f1.tr c3
      by_cases g : nI (T.hF c (nI k) 0 (m + 1)) = x1
      · refine ⟨(s.1 + (gI M4 (128 * (gR M4 1) + 16)).toInt64, M4), ?_, f4, c2.2.1, c2.2.2.2.2⟩
        unfold bX11_countRowsOfOne_30
        refine eq_f (by rw [q1, T1.1.2.2.1]; exact nI_ge hk (by omega)) (eq_b (z := hld s.2 (nI c) (nI k) 0 (nI (m + 1))) (by rw [hs.2.1, hs.2.2]; exact xhold) (eq_b c1 (eq_t g ?_)))
        unfold fX11_countRowsOfOne_88
        rw [show nI k + 1 = nI (k + 1) from nI_add k 1]
        rfl
      · refine ⟨(s.1, M4), ?_, f4, c2.2.1, c2.2.2.2.2⟩
        unfold bX11_countRowsOfOne_30
        refine eq_f (by rw [q1, T1.1.2.2.1]; exact nI_ge hk (by omega)) (eq_b (z := hld s.2 (nI c) (nI k) 0 (nI (m + 1))) (by rw [hs.2.1, hs.2.2]; exact xhold) (eq_b c1 (eq_f g ?_)))
        unfold fX11_countRowsOfOne_88
        rw [show nI k + 1 = nI (k + 1) from nI_add k 1]
    · show okP (bX11_countRowsOfOne_30 n0 (loopN (bX11_countRowsOfOne_30 n0) (fun _ _ _ _ => none) w) x1 s.1 (nI T.nt) s.2) _
      have T1 := hT.xf hs.1 nN31
      have q1 : gR s.2 1 = q := by rw [hs.1.1]; exact h1
      unfold bX11_countRowsOfOne_30
      exact okP_t (by rw [q1, T1.1.2.2.1]; exact Int32.le_refl _) (okP_some hs.1)
  have f2 := a3.tr b3
  unfold fX11_countRowsOfOne
  refine okP_be a1 (okP_be b1 (okP_ite (fun _ => ?_) (fun _ => lp _ _ ⟨f2, b2.2.1, b2.2.2.2.2⟩)))
  exact okP_be rfl (lp _ _ ⟨f2, b2.2.1, b2.2.2.2.2⟩)
theorem xtwo {n0 q c m h : Nat} {t x1 : Int32} {T : TP} {M : Mem} (hn : 1700 ≤ n0) (hT : XT n0 q T M) (hX : PmX q c t h m M) (hO : PmO T.nt c t h m) (hm : m + 1 < 9999) (h1 : gR M 1 = q) : okP (fX11_countRowsOfTwo n0 x1 M) (fun z => XF noN M z.2) := by
  have o1 := hT.2.1.1
  obtain ⟨M1, a1, a2, a3⟩ := xgo hT.1 hX hO (by omega)
  have ok := tk_ok (nt := T.nt) (c := c) (m := m + 1) (gF := T.gF) (p := (t, h)) ⟨hO.2.1, hO.2.2.1⟩
  obtain ⟨⟨r2, M2⟩, b1, b2⟩ := xone (n0 := n0) (x1 := x1) hn (hT.xf a3 nN31) a2 ⟨hO.1, ok.1, ok.2, by omega⟩ (by omega) (by rw [a3.1]; exact h1)
  have b2' : XF noN M1 M2 := b2
  unfold fX11_countRowsOfTwo
  refine okP_bnd (okP_be a1 (okP_bnd (okP_be rfl (okP_be b1 (okP_bnd ?_)))))
  rw [hX.2.1, a2.2.2.2.2]
  refine lpG (L := fun w k (s : Int64 × Mem) => loopN (bX11_countRowsOfTwo_38 n0) (fun _ _ _ _ _ _ => none) w x1 (nI c) (nI (m + 1)) s.1 (nI k) s.2) (n := T.nt) (I := fun s => XF noN M s.2) (fun w k s hk hs => Or.inr ?_) (fun w s hs => ?_) n0 0 (_, M2) (by omega) (by omega) (a3.tr b2')
  · show ∃ s', bX11_countRowsOfTwo_38 n0 (loopN (bX11_countRowsOfTwo_38 n0) (fun _ _ _ _ _ _ => none) w) x1 (nI c) (nI (m + 1)) s.1 (nI k) s.2 = _ ∧ _
    have T1 := hT.xf hs nN31
    have q1 : gR s.2 1 = q := by rw [hs.1]; exact h1
    have r1 : gR s.2 896 = q := by rw [hs.1]; exact hX.1
    have f1 : XF noN M (hld s.2 (nI c) (nI k) 0 (nI (m + 1))) := hs.tr hld_f
    obtain ⟨⟨r3, M3⟩, c1, c2⟩ := xone (n0 := n0) (x1 := x1) hn (hT.xf f1 nN31) (hld_p (h := 0) r1) ⟨hO.1, Or.inr ⟨k, hk, rfl⟩, Nat.zero_le _, by omega⟩ (by omega) q1
    refine ⟨(s.1 + (gI (hld s.2 (nI c) (nI k) 0 (nI (m + 1))) (128 * gR (hld s.2 (nI c) (nI k) 0 (nI (m + 1))) 1 + 16)).toInt64 * r3, M3), ?_, f1.tr c2⟩
    unfold bX11_countRowsOfTwo_38
    refine eq_f (by rw [q1, T1.1.2.2.1]; exact nI_ge hk (by omega)) (eq_b (z := hld s.2 (nI c) (nI k) 0 (nI (m + 1))) xhold (eq_b c1 ?_))
    rw [show nI k + 1 = nI (k + 1) from nI_add k 1]
    rfl
  · show okP (bX11_countRowsOfTwo_38 n0 (loopN (bX11_countRowsOfTwo_38 n0) (fun _ _ _ _ _ _ => none) w) x1 (nI c) (nI (m + 1)) s.1 (nI T.nt) s.2) _
    have T1 := hT.xf hs nN31
    have q1 : gR s.2 1 = q := by rw [hs.1]; exact h1
    unfold bX11_countRowsOfTwo_38
    exact okP_t (by rw [q1, T1.1.2.2.1]; exact Int32.le_refl _) (okP_some hs)
theorem xbey {n0 q nc nd m d : Nat} {pm : Nat → Int32 × Nat} {s : Nat × List (Nat × Nat)} {X : Mem} (S : SX q nc nd m pm s X) (hm : m ≤ 9999) (hd : d ≤ 100) : fX11_isBeyond n0 (nI d) X = some (bI (9999 - m < d), X) := by
  unfold fX11_isBeyond
  rw [S.2.2.1, show (9999 : Int32) - nI m = nI (9999 - m) from nI_subN hm]
  by_cases z : d ≤ 9999 - m
  · rw [bI_f (by omega)]; exact eq_t (nI_le z (by omega)) rfl
  · rw [bI_t (by omega)]; exact eq_f (nI_ge (by omega) (by omega)) rfl
theorem in12 (x : Int32) (h1 : ¬ x < 1) (h2 : ¬ (2 : Int32) < x) : ∃ k, 1 ≤ k ∧ k ≤ 2 ∧ x = nI k := by
  rcases in_or (n := 3) x (by decide) with ⟨k, hk, rfl⟩ | z
  · refine ⟨k, ?_, by omega, rfl⟩
    rcases Nat.lt_or_ge k 1 with y | y
    · exact absurd (nI_lt (b := 1) y (by decide)) h1
    · exact y
  · exfalso
    rw [i_lt] at h1 h2
    have a1 : (1 : Int32).toInt = 1 := rfl
    have a2 : (2 : Int32).toInt = 2 := rfl
    rcases z with z | z
    · rw [i_lt] at z
      have a0 : (0 : Int32).toInt = 0 := rfl
      omega
    · rw [i_le] at z
      have a3 : (nI 3).toInt = 3 := rfl
      omega
theorem xodds {n0 q b : Nat} {T : TP} {nr C m : Nat} {pm : Nat → Int32 × Nat} {s : Nat × List (Nat × Nat)} {x y z : Int32} {MX MY : Mem} (hn : 1700 ≤ n0) (h : RR n0 q b T nr C m pm s MX MY) : okP (fX11_odds n0 x y z MX) (fun u => XF scA MX u.2) := by
  obtain ⟨h1, h2, h3, h4, _⟩ := id h
  obtain ⟨o1, o2, o3, _⟩ := h1.2.2.2.1.2.1
  have hm := h2.1
  have e0 : ∀ {v : Int64}, okP (some (v, MX)) (fun u => XF scA MX u.2) := okP_some XF.r
  unfold fX11_odds
  rcases isCo h1 x with ⟨c, hc, rfl, e1, _⟩ | ⟨_, e1, _⟩
  · refine okP_be e1 (okP_f (show ¬ (1 : Int32) = 0 by decide) (okP_ite (fun _ => e0) (fun _ => okP_ite (fun _ => e0) (fun z1 => okP_ite (fun _ => e0) (fun z2 => ?_)))))
    obtain ⟨k, k1, k2, rfl⟩ := in12 z z1 z2
    refine okP_be (xbey h3 hm (by omega)) (okP_ite (fun z3 => okP_ite (fun _ => e0) (fun _ => okP_ite (fun _ => okP_ite (fun _ => okP_bnd (okP_ite (fun _ => e0) (fun _ => e0))) (fun _ => ?_)) (fun _ => e0))) (fun _ => e0))
    have z4 : ¬ 9999 - m < k := fun u => by
      have z3' : bI (9999 - m < k) = 0 := z3
      rw [bI_t u] at z3'
      exact absurd z3' (by decide)
    have f1 : XF noN MX (hld MX (nI c) (pm c).1 (nI (pm c).2) (nI m)) := hld_f
    have pO := h2.2.1 c hc
    refine okP_be (xlook h3 o2 hc) (okP_ite (fun _ => ?_) (fun z5 => ?_))
    · obtain ⟨⟨r, X⟩, a1, a2⟩ := xone (n0 := n0) (x1 := y) hn (h1.2.2.2.1.xf f1 nN31) (hld_p h3.1) ⟨by omega, pO.1, pO.2, by omega⟩ (by omega) h1.2.1
      exact okP_be a1 (okP_some (f1.tr a2).n)
    · have k3 : k = 2 := by
        rcases Nat.lt_or_ge k 2 with u | u
        · exact absurd (show nI k = 1 by rw [show k = 1 by omega]; rfl) z5
        · omega
      obtain ⟨⟨r, X⟩, a1, a2⟩ := xtwo (n0 := n0) (x1 := y) hn (h1.2.2.2.1.xf f1 nN31) (hld_p h3.1) ⟨by omega, pO.1, pO.2, by omega⟩ (by omega) h1.2.1
      exact okP_be a1 (okP_some (f1.tr a2).n)
  · exact okP_be e1 (okP_t rfl e0)
abbrev yoL (n0 : Nat) (k94 : Int32 → Int32 → Int32 → Int32 → Int32 → Int64 → Int32 → Mem → Option (Int64 × Mem)) : Nat → Int32 → Int32 → Int32 → Int32 → Int32 → Int64 → Int32 → Int64 → Int32 → Int32 → Mem → Option (Int64 × Mem) := loopN (bX12_odds_117 n0 k94) (fun _ _ _ _ _ _ _ _ _ _ _ => none)
theorem yo117 {n0 b c m n : Nat} {T : TP} {x2 x5 x8 : Int32} {y6 : Int64} {s : Nat × List (Nat × Nat)} {k94 : Int32 → Int32 → Int32 → Int32 → Int32 → Int64 → Int32 → Mem → Option (Int64 × Mem)} (hn : 1700 ≤ n0) (hc : c < T.nc) (hs : sOk T.nd s) (hm : m + n ≤ 9999) (h0 : 0 < T.nt) : ∀ w j (y9 : Int64) v M (pm : Nat → Int32 × Nat), j ≤ n → n < w + j → v ≤ 1000 → YT n0 b T M → LyD 1 T.nc (m + j) pm s M → PsO T.nt T.nc pm → n ≤ 2 → ∃ y M', yoL n0 k94 w (nI c) x2 (nI n) (nI (T.nc * T.nt)) x5 y6 x8 y9 (nI v) (nI j) M = k94 (nI c) x2 (nI n) (nI (T.nc * T.nt)) x5 y (x8 + 1) M' ∧ YF (lP 1) M M'
  | 0, j, _, _, _, _, hj, hw, _, _, _, _, _ => by omega
  | w + 1, j, y9, v, M, pm, hj, hw, hv, hY, hL, hO, h2 => by
    show ∃ y M', bX12_odds_117 n0 k94 (yoL n0 k94 w) (nI c) x2 (nI n) (nI (T.nc * T.nt)) x5 y6 x8 y9 (nI v) (nI j) M = _ ∧ _
    obtain ⟨o1, o2, o3, _⟩ := hY.2.1
    have hl := hs.l
    have w30 : T.nc * T.nt ≤ 30 := Nat.le_trans (Nat.mul_le_mul o2 o1) (by decide)
    unfold bX12_odds_117
    by_cases g : j = n
    · subst g
      by_cases z : x2 = -1
      · exact ⟨_, M, eq_t (Int32.le_refl _) (eq_t z rfl), YF.r⟩
      · obtain ⟨_, M2, e1, e2⟩ := yhr hY (v := 1) (by decide) hL.1 hO (by omega) hc
        by_cases u : nI (T.hF c (pm c).1 (pm c).2 (m + j)) = x2
        · exact ⟨_, M2, eq_t (Int32.le_refl _) (eq_f z (eq_b e1 (eq_t u rfl))), e2.y⟩
        · exact ⟨_, M2, eq_t (Int32.le_refl _) (eq_f z (eq_b e1 (eq_f u rfl))), e2.y⟩
    · have g1 : nI (T.nc * T.nt) + 1 = nI (T.nc * T.nt + 1) := nI_add _ 1
      have gd : ¬ nI (T.nc * T.nt + 1) = 0 := nI_ne0 (by omega) (by omega)
      have er : rem32 (nI v) (nI (T.nc * T.nt + 1)) = nI (v % (T.nc * T.nt + 1)) := rem_nI (by omega) (by omega)
      have ed : nI v / nI (T.nc * T.nt + 1) = nI (v / (T.nc * T.nt + 1)) := nI_div (by omega) (by omega)
      have hdv : v / (T.nc * T.nt + 1) ≤ 1000 := Nat.le_trans (Nat.div_le_self _ _) hv
      have hrv : v % (T.nc * T.nt + 1) < T.nc * T.nt + 1 := Nat.mod_lt _ (by omega)
      obtain ⟨M1, a1, a2, a3⟩ := ytickD (v := 1) hn hY (by decide) hL hO hs (by omega)
      have j1 : nI j + 1 = nI (j + 1) := nI_add j 1
      have fin : ∀ M2 (pm2 : Nat → Int32 × Nat), LyD 1 T.nc (m + j + 1) pm2 s M2 → PsO T.nt T.nc pm2 → YF (lP 1) M M2 → ∃ y M', fX12_odds_182 n0 k94 (yoL n0 k94 w) (nI c) x2 (nI n) (nI (T.nc * T.nt)) x5 y6 x8 y9 (nI (v / (T.nc * T.nt + 1))) (nI j) (nI (v % (T.nc * T.nt + 1))) M2 = k94 (nI c) x2 (nI n) (nI (T.nc * T.nt)) x5 y (x8 + 1) M' ∧ YF (lP 1) M M' := fun M2 pm2 L2 O2 f2 => by
        have Y2 := hY.yf f2 lP28
        have o13 : ¬ oob (gI M2 13) 2 := by rw [Y2.2.2.2.1]; exact nI_in (by have := Y2.2.2.1; omega) (by decide)
        unfold fX12_odds_182 fX12_odds_220
        by_cases z : nI (T.nc * T.nt) ≤ nI (v % (T.nc * T.nt + 1))
        · obtain ⟨y, M', b1, b2⟩ := yo117 hn hc hs hm h0 w (j + 1) (y9 * ((((100 : Int32) - (gA M2 13 (Int32.toNatClampNeg (gI M2 13)))) * nI (T.nc * T.nt))).toInt64) (v / (T.nc * T.nt + 1)) M2 pm2 (by omega) (by omega) hdv Y2 L2 O2 h2
          exact ⟨y, M', eq_t z (eq_f o13 (by rw [j1]; exact b1)), f2.tr b2⟩
        · obtain ⟨y, M', b1, b2⟩ := yo117 hn hc hs hm h0 w (j + 1) (y9 * (gA M2 13 (Int32.toNatClampNeg (gI M2 13))).toInt64) (v / (T.nc * T.nt + 1)) M2 pm2 (by omega) (by omega) hdv Y2 L2 O2 h2
          exact ⟨y, M', eq_f z (eq_f o13 (by rw [j1]; exact b1)), f2.tr b2⟩
      have Y1 := hY.yf a3 lP28
      have o13 : ¬ oob (gI M1 13) 2 := by rw [Y1.2.2.2.1]; exact nI_in (by have := Y1.2.2.1; omega) (by decide)
      have nt1 : gA M1 2 (Int32.toNatClampNeg (gI M1 13)) = nI T.nt := by
        rw [Y1.2.2.2.1, nI_clamp (by have := Y1.2.2.1; omega)]; exact Y1.2.2.2.2.1
      have O1 : PsO T.nt T.nc (nxP T (m + j) pm) := fun c hc => tk_ok (hO c hc)
      rw [g1, er, ed]
      by_cases z : T.nc * T.nt ≤ v % (T.nc * T.nt + 1)
      · obtain ⟨y, M', b1, b2⟩ := fin M1 _ a2 O1 a3
        exact ⟨y, M', eq_f (nI_ge (by omega) (by omega)) (eq_f gd (eq_n (eq_f gd (eq_n (eq_b a1 (eq_t (nI_le z (by omega)) b1)))))), b2⟩
      · have q1 : v % (T.nc * T.nt + 1) / T.nt < T.nc := (Nat.div_lt_iff_lt_mul h0).mpr (by omega)
        have q2 : v % (T.nc * T.nt + 1) % T.nt < T.nt := Nat.mod_lt _ h0
        have ntn : ¬ nI T.nt = 0 := nI_ne0 (by omega) (by omega)
        obtain ⟨M2, c1, c2, c3⟩ := yput1 (n0 := n0) (t := nI (v % (T.nc * T.nt + 1) % T.nt)) a2 o2 q1
        obtain ⟨y, M', b1, b2⟩ := fin M2 _ c2 (upP_ok O1 ⟨Or.inr ⟨_, q2, rfl⟩, Nat.zero_le _⟩) (a3.tr c3)
        refine ⟨y, M', eq_f (nI_ge (by omega) (by omega)) (eq_f gd (eq_n (eq_f gd (eq_n (eq_b a1 (eq_f (nI_ge (by omega) (by omega)) (eq_f o13 (eq_f (by rw [nt1]; exact ntn) (eq_f o13 (eq_f (by rw [nt1]; exact ntn) (eq_b (z := M2) ?_ b1))))))))))), b2⟩
        rw [nt1, nI_div (by omega) (by omega), rem_nI (by omega) (by omega)]
        exact c1
theorem yodds {n0 q b : Nat} {T : TP} {nr C m : Nat} {pm : Nat → Int32 × Nat} {s : Nat × List (Nat × Nat)} {x y z : Int32} {MX MY : Mem} (hn : 1700 ≤ n0) (h : RR n0 q b T nr C m pm s MX MY) : okP (fX12_odds n0 x y z MY) (fun u => YF scP MY u.2) := by
  obtain ⟨h1, h2, h3, h4, _⟩ := id h
  obtain ⟨o1, o2, o3, _⟩ := h1.2.2.2.1.2.1
  have hm := h2.1
  have hl := h2.2.2.l
  have Y := h1.2.2.2.2.1
  have hb := Y.2.2.1
  have h13 := Y.2.2.2.1
  have o13 : ¬ oob (gI MY 13) 2 := by rw [h13]; exact nI_in (by omega) (by decide)
  have yq : gA MY 2 (gI MY 13).toNatClampNeg = nI T.nt := by rw [h13, nI_clamp (by omega)]; exact Y.2.2.2.2.1
  have yc : gA MY 5 (gI MY 13).toNatClampNeg = nI T.nc := by rw [h13, nI_clamp (by omega)]; exact Y.2.2.2.2.2.1
  have w30 : T.nc * T.nt ≤ 30 := Nat.le_trans (Nat.mul_le_mul o2 o1) (by decide)
  have e0 : ∀ {v : Int64}, okP (some (v, MY)) (fun u => YF scP MY u.2) := okP_some YF.r
  unfold fX12_odds
  rcases isCo h1 x with ⟨c, hc, rfl, _, e2⟩ | ⟨_, _, e2⟩
  · refine okP_be e2 (okP_f (show ¬ (1 : Int32) = 0 by decide) (okP_f o13 (okP_ite (fun _ => e0) (fun z0 => ?_))))
    have h0 : 0 < T.nt := Nat.pos_of_ne_zero (fun u => z0 (by show gA MY 2 _ = 0; rw [yq, u]; rfl))
    have ei : ∃ r, fX12_is n0 y (-1) 23 MY = some (r, MY) := by
      unfold fX12_is
      by_cases u : y < -1
      · exact ⟨_, eq_t u rfl⟩
      · by_cases u2 : (23 : Int32) < y
        · exact ⟨_, eq_f u (eq_t u2 rfl)⟩
        · exact ⟨_, eq_f u (eq_f u2 rfl)⟩
    obtain ⟨r, ei⟩ := ei
    refine okP_be ei (okP_ite (fun _ => e0) (fun _ => ?_))
    rcases yah (n0 := n0) (lo := 1) (hi := 2) z h4.1.1 hm (by decide) (by decide) with ⟨n, n1, n2, n3, rfl, e⟩ | ⟨_, e⟩
    · refine okP_be e (okP_f (show ¬ (1 : Int32) = 0 by decide) (okP_f o13 (okP_f o13 ?_)))
      have ew : gA MY 5 (Int32.toNatClampNeg (gI MY 13)) * gA MY 2 (Int32.toNatClampNeg (gI MY 13)) = nI (T.nc * T.nt) := by rw [yc, yq, nI_mul]
      have lp : ∀ W, W ≤ 1000 → okP (fX12_odds_86 n0 (nI c) y (nI n) (nI (T.nc * T.nt)) (nI W) MY) (fun u => YF scP MY u.2) := fun W hW => by
        unfold fX12_odds_86
        refine lpG (L := fun w k (u : Int64 × Mem) => loopN (bX12_odds_94 n0) (fun _ _ _ _ _ _ _ _ => none) w (nI c) y (nI n) (nI (T.nc * T.nt)) (nI W) u.1 (nI k) u.2) (n := W) (I := fun u => YF (lP 1) MY u.2) (fun w k u hk hu => Or.inr ?_) (fun w u hu => ?_) n0 0 (0, MY) (by omega) (by omega) YF.r
        · show ∃ s', bX12_odds_94 n0 (loopN (bX12_odds_94 n0) (fun _ _ _ _ _ _ _ _ => none) w) (nI c) y (nI n) (nI (T.nc * T.nt)) (nI W) u.1 (nI k) u.2 = _ ∧ _
          have L0 : LyD 0 T.nc m pm s u.2 := h4.fr hu o2 (by omega) (fun a i z y => by unfold lP tP dP at z; unfold lP tP dP at y; omega)
          obtain ⟨Y1, b1, b2, b3⟩ := ycopyD (n0 := n0) (v := 1) (u := 0) hn (by decide) (by decide) (by decide) o2 (by omega) L0
          obtain ⟨v', Y2, c1, c2⟩ := yo117 (n0 := n0) (x2 := y) (x5 := nI W) (x8 := nI k) (y6 := u.1) (k94 := loopN (bX12_odds_94 n0) (fun _ _ _ _ _ _ _ _ => none) w) hn hc h2.2.2 n3 h0 n0 0 1 k Y1 pm (by omega) (by omega) (by omega) (Y.yf (hu.tr b3) lP28) b2 h2.2.1 n2
          refine ⟨(v', Y2), ?_, (hu.tr b3).tr c2⟩
          unfold bX12_odds_94
          refine eq_f (nI_ge hk (by omega)) (eq_b b1 (Eq.trans c1 ?_))
          rw [show nI k + 1 = nI (k + 1) from nI_add k 1]
          rfl
        · show okP (bX12_odds_94 n0 (loopN (bX12_odds_94 n0) (fun _ _ _ _ _ _ _ _ => none) w) (nI c) y (nI n) (nI (T.nc * T.nt)) (nI W) u.1 (nI W) u.2) _
          unfold bX12_odds_94
          exact okP_t (Int32.le_refl _) (okP_some (lsc hu))
      show okP (if nI n = 1 then fX12_odds_86 n0 (nI c) y (nI n) (gA MY 5 (Int32.toNatClampNeg (gI MY 13)) * gA MY 2 (Int32.toNatClampNeg (gI MY 13))) (gA MY 5 (Int32.toNatClampNeg (gI MY 13)) * gA MY 2 (Int32.toNatClampNeg (gI MY 13)) + 1) MY else fX12_odds_86 n0 (nI c) y (nI n) (gA MY 5 (Int32.toNatClampNeg (gI MY 13)) * gA MY 2 (Int32.toNatClampNeg (gI MY 13))) ((gA MY 5 (Int32.toNatClampNeg (gI MY 13)) * gA MY 2 (Int32.toNatClampNeg (gI MY 13)) + 1) * (gA MY 5 (Int32.toNatClampNeg (gI MY 13)) * gA MY 2 (Int32.toNatClampNeg (gI MY 13)) + 1)) MY) _
      rw [ew, show nI (T.nc * T.nt) + 1 = nI (T.nc * T.nt + 1) from nI_add _ 1, nI_mul]
      exact okP_ite (fun _ => lp _ (by omega)) (fun _ => lp _ (Nat.le_trans (Nat.mul_le_mul (show T.nc * T.nt + 1 ≤ 31 by omega) (show T.nc * T.nt + 1 ≤ 31 by omega)) (by decide)))
    · exact okP_be e (okP_t rfl e0)
  · exact okP_be e2 (okP_t rfl e0)
theorem nOdds {n0 : Nat} {x y z : Int32} {MX MY : Mem} (hn : 1700 ≤ n0) (h : R n0 MX MY) : CalL n0 (fX11_odds n0 x y z MX) (fX12_odds n0 x y z MY) := by
  obtain ⟨q, b, T, nr, C, m, pm, s, h⟩ := h
  exact CalL.scr h (xodds hn h) (yodds hn h)
end
section
/-! PLANS COME TO AN END, BY THE CLASS -/
abbrev xpTL (n0 : Nat) : Nat → Int32 → Int32 → Int32 → Mem → Option (Int32 × Mem) := loopN (bX11_tellsWithin_3 n0) (fun _ _ _ _ => none)
theorem xtells {n0 last : Nat} {x1 : Int32} {M : Mem} (hl : last ≤ 60) : ∀ w k, k ≤ last + 1 → last + 1 < w + k → ∃ r, xpTL n0 w x1 (nI last) (nI k) M = some (r, M)
  | 0, k, hk, hw => by omega
  | w + 1, k, hk, hw => by
    show ∃ r, bX11_tellsWithin_3 n0 (xpTL n0 w) x1 (nI last) (nI k) M = _
    unfold bX11_tellsWithin_3
    by_cases g : k = last + 1
    · exact ⟨_, eq_t (nI_lt (by omega) (by omega)) rfl⟩
    · by_cases z : gA M 26 (Int32.toNatClampNeg (nI k)) = x1
      · exact ⟨_, eq_f (fun z => by have := (nI_ltI (a := last) (b := k) (by omega) (by omega)).mp z; omega) (eq_f (nI_in (by omega) (by decide)) (eq_t z rfl))⟩
      · obtain ⟨r, e⟩ := xtells (n0 := n0) (x1 := x1) (M := M) hl w (k + 1) (by omega) (by omega)
        exact ⟨r, eq_f (fun z => by have := (nI_ltI (a := last) (b := k) (by omega) (by omega)).mp z; omega) (eq_f (nI_in (by omega) (by decide)) (eq_f z (by rw [show nI k + 1 = nI (k + 1) from nI_add k 1]; exact e)))⟩
abbrev xpDL (n0 : Nat) : Nat → Int32 → Int32 → Int32 → Int32 → Int32 → Mem → Option (Int32 × Mem) := loopN (bX11_doesAll_3 n0) (fun _ _ _ _ _ _ => none)
theorem xdoes {n0 q last lo : Nat} {x1 x2 : Int32} {T : TP} {M : Mem} (hn : 1700 ≤ n0) (hT : XT n0 q T M) (h1 : gR M 1 = q) (hl : last ≤ 60) (hlo : lo ≤ last + 1) : ∀ w k, k ≤ T.nd → T.nd < w + k → ∃ r, xpDL n0 w x1 x2 (nI lo) (nI last) (nI k) M = some (r, M) ∧ (r = 0 ∨ r = 1)
  | 0, k, hk, hw => by omega
  | w + 1, k, hk, hw => by
    show ∃ r, bX11_doesAll_3 n0 (xpDL n0 w) x1 x2 (nI lo) (nI last) (nI k) M = _ ∧ _
    have o3 := hT.2.1.2.2.1
    have en : gI M (128 * gR M 1 + 12) = nI T.nd := by rw [h1]; exact hT.2.2.2.1
    unfold bX11_doesAll_3
    by_cases g : k = T.nd
    · exact ⟨_, eq_t (by rw [en, g]; exact Int32.le_refl _) rfl, Or.inr rfl⟩
    · obtain ⟨r, e, er⟩ := xdoes (n0 := n0) (x1 := x1) (x2 := x2) hn hT h1 hl hlo w (k + 1) (by omega) (by omega)
      have o : ¬ oob (nI k) 6 := nI_in (by omega) (by decide)
      have nx : fX11_doesAll_86 n0 (xpDL n0 w) x1 x2 (nI lo) (nI last) (nI k) M = some (r, M) := by
        unfold fX11_doesAll_86
        rw [show nI k + 1 = nI (k + 1) from nI_add k 1]
        exact e
      have n43 : fX11_doesAll_43 n0 (xpDL n0 w) x1 x2 (nI lo) (nI last) (nI k) M = some (r, M) := by
        unfold fX11_doesAll_43 fX11_doesAll_44
        exact eq_t rfl nx
      have n44 : ∃ r, fX11_doesAll_44 n0 (xpDL n0 w) x1 x2 (nI lo) (nI last) (nI k) 1 M = some (r, M) ∧ (r = 0 ∨ r = 1) := by
        unfold fX11_doesAll_44
        by_cases z : gA M 13 (Int32.toNatClampNeg (nI k)) = 0
        · obtain ⟨r', e'⟩ := xtells (n0 := n0) (x1 := gA M (gR M 1 + 11) (Int32.toNatClampNeg (nI k))) (M := M) hl n0 lo hlo (by omega)
          have e2 : fX11_tellsWithin n0 (gA M (gR M 1 + 11) (Int32.toNatClampNeg (nI k))) (nI lo) (nI last) M = some (r', M) := e'
          by_cases z2 : r' = 0
          · exact ⟨0, eq_f (show ¬ (1 : Int32) = 0 by decide) (eq_f o (eq_t z (eq_f o (eq_b e2 (eq_t z2 rfl))))), Or.inl rfl⟩
          · exact ⟨r, eq_f (show ¬ (1 : Int32) = 0 by decide) (eq_f o (eq_t z (eq_f o (eq_b e2 (eq_f z2 nx))))), er⟩
        · exact ⟨r, eq_f (show ¬ (1 : Int32) = 0 by decide) (eq_f o (eq_f z nx)), er⟩
      have ng : ¬ gI M (128 * gR M 1 + 12) ≤ nI k := by rw [en]; exact nI_ge (by omega) (by omega)
      by_cases z : ((x2 >>> (nI k &&& 31)) &&& (1 : Int32)) = 1
      · by_cases z2 : gA M (gR M 1 + 10) (Int32.toNatClampNeg (nI k)) = x1
        · obtain ⟨r', e', er'⟩ := n44
          exact ⟨r', eq_f ng (eq_t z (eq_f o (eq_t z2 e'))), er'⟩
        · exact ⟨r, eq_f ng (eq_t z (eq_f o (eq_f z2 n43))), er⟩
      · exact ⟨r, eq_f ng (eq_f z n43), er⟩
/-- what plans stand on, and what they leave -/
def PlI (n0 q : Nat) (T : TP) (m : Nat) (pm : Nat → Int32 × Nat) (s : Nat × List (Nat × Nat)) (M0 M : Mem) : Prop := XF scA M0 M ∧ XT n0 q T M ∧ SX q T.nc T.nd m pm s M ∧ gR M 1 = q
theorem PlI.fr {n0 q m : Nat} {T : TP} {pm : Nat → Int32 × Nat} {s : Nat × List (Nat × Nat)} {M0 M M' : Mem} (h : PlI n0 q T m pm s M0 M) (f : XF scA M M') : PlI n0 q T m pm s M0 M' := ⟨h.1.tr f, h.2.1.xf f scA31, h.2.2.1.fr f (fun a z y => by unfold scA at z; unfold stA at y; omega), by rw [f.1]; exact h.2.2.2⟩
theorem xpalm {n0 q m c most lo h : Nat} {t x2 : Int32} {T : TP} {pm : Nat → Int32 × Nat} {s : Nat × List (Nat × Nat)} {M0 M : Mem} (hn : 1700 ≤ n0) (hm : m ≤ 9999) (hI : PlI n0 q T m pm s M0 M) (hc : c < T.nc) (hp : pOk T.nt (t, h)) (hmo : most ≤ 20) (hlo : lo ≤ 1) : ∃ r M1 M2, fX1_foresee n0 26 (nI most) (hld M (nI c) t (nI h) (nI m)) = some (r, M1) ∧ (∃ v, fX11_doesAll n0 (nI c) x2 (nI lo) r M1 = some (v, M2) ∧ (v = 0 ∨ v = 1)) ∧ PlI n0 q T m pm s M0 M2 := by
  have o2 := hI.2.1.2.1.2.1
  have o3 := hI.2.1.2.1.2.2.1
  have f1 : XF scA M (hld M (nI c) t (nI h) (nI m)) := hld_f
  obtain ⟨M2, e1, e2, e3⟩ := xfor (n0 := n0) (q1 := 26) (most := most) hn (hI.2.1.1.xf f1 scA31) (hld_p hI.2.2.1.1) (by omega) hp hm (by omega) (Or.inl rfl)
  have I2 := (hI.fr f1).fr (e3.wk (fun a z => by unfold scA; omega))
  obtain ⟨v, d1, d2⟩ := xdoes (n0 := n0) (lo := lo) (last := min most (9999 - m)) (x1 := nI c) (x2 := x2) hn I2.2.1 I2.2.2.2 (by omega) (by omega) n0 0 (by omega) (by omega)
  exact ⟨_, M2, M2, e1, ⟨v, d1, d2⟩, I2⟩
theorem xwith {n0 q m c most lo : Nat} {x2 : Int32} {T : TP} {pm : Nat → Int32 × Nat} {s : Nat × List (Nat × Nat)} {M0 M : Mem} (hn : 1700 ≤ n0) (hm : m ≤ 9999) (hO : PsO T.nt T.nc pm) (hI : PlI n0 q T m pm s M0 M) (hc : c < T.nc) (hmo : most ≤ 20) (hlo : lo ≤ 1) : okP (fX11_doesWithout n0 (nI c) x2 (nI lo) (nI most) M) (fun z => PlI n0 q T m pm s M0 z.2) := by
  have o2 := hI.2.1.2.1.2.1
  obtain ⟨r, M1, M2, e1, ⟨v, e2, e3⟩, I2⟩ := xpalm (n0 := n0) (x2 := x2) (lo := lo) hn hm hI hc (hO c hc) hmo hlo
  unfold fX11_doesWithout
  exact okP_be (xlook hI.2.2.1 o2 hc) (okP_be e1 (okP_be e2 (okP_t e3 (okP_some I2))))
abbrev xpFL (n0 : Nat) : Nat → Int32 → Int32 → Int32 → Int32 → Mem → Option (Int32 × Mem) := loopN (bX11_findGiving_3 n0) (fun _ _ _ _ _ => none)
theorem xfind {n0 q m c most : Nat} {x2 : Int32} {T : TP} {pm : Nat → Int32 × Nat} {s : Nat × List (Nat × Nat)} {M0 M : Mem} (hn : 1700 ≤ n0) (hm : m ≤ 9999) (hI : PlI n0 q T m pm s M0 M) (hc : c < T.nc) (hmo : most ≤ 20) : okP (fX11_findGiving n0 (nI c) x2 (nI most) M) (fun z => PlI n0 q T m pm s M0 z.2) := by
  have o1 := hI.2.1.2.1.1
  refine lpG (L := fun w k u => xpFL n0 w (nI c) x2 (nI most) (nI k) u) (n := T.nt) (I := fun u => PlI n0 q T m pm s M0 u) (fun w k u hk hu => ?_) (fun w u hu => ?_) n0 0 M (by omega) (by omega) hI
  · show okP (bX11_findGiving_3 n0 (xpFL n0 w) (nI c) x2 (nI most) (nI k) u) _ ∨ ∃ s', bX11_findGiving_3 n0 (xpFL n0 w) (nI c) x2 (nI most) (nI k) u = _ ∧ _
    have en : gI u (128 * gR u 1 + 1) = nI T.nt := by rw [hu.2.2.2]; exact hu.2.1.1.2.2.1
    have ng : ¬ gI u (128 * gR u 1 + 1) ≤ nI k := by rw [en]; exact nI_ge (by omega) (by omega)
    have eh : fX1_hold n0 (nI c) (nI k) 0 (gI u 1281) u = some (hld u (nI c) (nI k) (nI 0) (nI m)) := by rw [hu.2.2.1.2.2.1]; exact xhold
    obtain ⟨r, M1, M2, e1, ⟨v, e2, e3⟩, I2⟩ := xpalm (n0 := n0) (x2 := x2) (lo := 0) (t := nI k) (h := 0) hn hm hu hc ⟨Or.inr ⟨k, hk, rfl⟩, Nat.zero_le _⟩ hmo (by decide)
    unfold bX11_findGiving_3
    by_cases z : v = 0
    · exact Or.inr ⟨M2, eq_f ng (eq_b eh (eq_b e1 (eq_b e2 (eq_t z (by rw [show nI k + 1 = nI (k + 1) from nI_add k 1]))))), I2⟩
    · exact Or.inl (okP_f ng (okP_be eh (okP_be e1 (okP_be e2 (okP_f z (okP_some I2))))))
  · show okP (bX11_findGiving_3 n0 (xpFL n0 w) (nI c) x2 (nI most) (nI T.nt) u) _
    have en : gI u (128 * gR u 1 + 1) = nI T.nt := by rw [hu.2.2.2]; exact hu.2.1.1.2.2.1
    unfold bX11_findGiving_3
    exact okP_t (by rw [en]; exact Int32.le_refl _) (okP_some hu)
theorem PlI.a28 {n0 q m i : Nat} {v : Int32} {T : TP} {pm : Nat → Int32 × Nat} {s : Nat × List (Nat × Nat)} {M0 M : Mem} (h : PlI n0 q T m pm s M0 M) : PlI n0 q T m pm s M0 (sA M 28 i v) := h.fr (XF.r.a (by unfold scA; omega))
theorem PlI.nc {n0 q m : Nat} {T : TP} {pm : Nat → Int32 × Nat} {s : Nat × List (Nat × Nat)} {M0 M : Mem} (h : PlI n0 q T m pm s M0 M) : gI M (128 * gR M 1 + 5) = nI T.nc := by rw [h.2.2.2]; exact h.2.1.2.2.1
theorem xnoth {n0 q m most : Nat} {x1 : Int32} {T : TP} {pm : Nat → Int32 × Nat} {s : Nat × List (Nat × Nat)} {M0 M : Mem} (hn : 1700 ≤ n0) (hm : m ≤ 9999) (hO : PsO T.nt T.nc pm) (hI : PlI n0 q T m pm s M0 M) (hmo : most ≤ 20) : okP (fX11_planNothing n0 x1 (nI most) M) (fun z => PlI n0 q T m pm s M0 z.2) := by
  have o2 := hI.2.1.2.1.2.1
  have l28 : ∀ M1, PlI n0 q T m pm s M0 M1 → okP (fX11_planNothing_28 n0 x1 (nI most) 0 M1) (fun z => PlI n0 q T m pm s M0 z.2) := fun M1 I1 => by
    refine lpG (L := fun w k u => loopN (bX11_planNothing_28 n0) (fun _ _ _ _ => none) w x1 (nI most) (nI k) u) (n := T.nc) (I := fun u => PlI n0 q T m pm s M0 u) (fun w k u hk hu => ?_) (fun w u hu => ?_) n0 0 M1 (by omega) (by omega) I1
    · show okP (bX11_planNothing_28 n0 (loopN (bX11_planNothing_28 n0) (fun _ _ _ _ => none) w) x1 (nI most) (nI k) u) _ ∨ ∃ s', bX11_planNothing_28 n0 (loopN (bX11_planNothing_28 n0) (fun _ _ _ _ => none) w) x1 (nI most) (nI k) u = _ ∧ _
      have ng : ¬ gI u (128 * gR u 1 + 5) ≤ nI k := by rw [hu.nc]; exact nI_ge (by omega) (by omega)
      obtain ⟨⟨r, M2⟩, e1, I2⟩ := xwith (n0 := n0) (x2 := x1) (lo := 1) hn hm hO hu hk hmo (by decide)
      unfold bX11_planNothing_28
      by_cases z : r = 0
      · exact Or.inl (okP_f ng (okP_be e1 (okP_t z (okP_some I2))))
      · exact Or.inr ⟨M2, eq_f ng (eq_b e1 (eq_f z (by rw [show nI k + 1 = nI (k + 1) from nI_add k 1]))), I2⟩
    · show okP (bX11_planNothing_28 n0 (loopN (bX11_planNothing_28 n0) (fun _ _ _ _ => none) w) x1 (nI most) (nI T.nc) u) _
      unfold bX11_planNothing_28
      exact okP_t (by rw [hu.nc]; exact Int32.le_refl _) (okP_some hu)
  refine lpG (L := fun w k u => loopN (bX11_planNothing_2 n0) (fun _ _ _ _ => none) w x1 (nI most) (nI k) u) (n := T.nc) (I := fun u => PlI n0 q T m pm s M0 u) (fun w k u hk hu => Or.inr ?_) (fun w u hu => ?_) n0 0 M (by omega) (by omega) hI
  · show ∃ s', bX11_planNothing_2 n0 (loopN (bX11_planNothing_2 n0) (fun _ _ _ _ => none) w) x1 (nI most) (nI k) u = _ ∧ _
    have ng : ¬ gI u (128 * gR u 1 + 5) ≤ nI k := by rw [hu.nc]; exact nI_ge (by omega) (by omega)
    refine ⟨sA u 28 (Int32.toNatClampNeg (nI k)) (-1), ?_, hu.a28⟩
    unfold bX11_planNothing_2
    exact eq_f ng (eq_f (nI_in (by omega) (by decide)) (eq_n (by rw [show nI k + 1 = nI (k + 1) from nI_add k 1])))
  · show okP (bX11_planNothing_2 n0 (loopN (bX11_planNothing_2 n0) (fun _ _ _ _ => none) w) x1 (nI most) (nI T.nc) u) _
    unfold bX11_planNothing_2
    exact okP_t (by rw [hu.nc]; exact Int32.le_refl _) (l28 u hu)
theorem xneed {n0 q m most : Nat} {x1 : Int32} {T : TP} {pm : Nat → Int32 × Nat} {s : Nat × List (Nat × Nat)} {M0 M : Mem} (hn : 1700 ≤ n0) (hm : m ≤ 9999) (hO : PsO T.nt T.nc pm) (hI : PlI n0 q T m pm s M0 M) (hmo : most ≤ 20) : okP (fX11_planNeeded n0 x1 (nI most) M) (fun z => PlI n0 q T m pm s M0 z.2) := by
  have o2 := hI.2.1.2.1.2.1
  refine lpG (L := fun w k u => loopN (bX11_planNeeded_2 n0) (fun _ _ _ _ => none) w x1 (nI most) (nI k) u) (n := T.nc) (I := fun u => PlI n0 q T m pm s M0 u) (fun w k u hk hu => ?_) (fun w u hu => ?_) n0 0 M (by omega) (by omega) hI
  · show okP (bX11_planNeeded_2 n0 (loopN (bX11_planNeeded_2 n0) (fun _ _ _ _ => none) w) x1 (nI most) (nI k) u) _ ∨ ∃ s', bX11_planNeeded_2 n0 (loopN (bX11_planNeeded_2 n0) (fun _ _ _ _ => none) w) x1 (nI most) (nI k) u = _ ∧ _
    have ng : ¬ gI u (128 * gR u 1 + 5) ≤ nI k := by rw [hu.nc]; exact nI_ge (by omega) (by omega)
    have o : ¬ oob (nI k) 5 := nI_in (by omega) (by decide)
    have k1 : nI k + 1 = nI (k + 1) := nI_add k 1
    obtain ⟨⟨r, M2⟩, e1, I2⟩ := xwith (n0 := n0) (x2 := x1) (lo := 0) hn hm hO hu hk hmo (by decide)
    unfold bX11_planNeeded_2 fX11_planNeeded_49
    by_cases z : r = 0
    · obtain ⟨⟨r2, M3⟩, e2, I3⟩ := xfind (n0 := n0) (x2 := x1) hn hm I2 hk hmo
      have I4 : PlI n0 q T m pm s M0 (sA M3 28 (Int32.toNatClampNeg (nI k)) r2) := PlI.a28 I3
      by_cases z2 : gA (sA M3 28 (Int32.toNatClampNeg (nI k)) r2) 28 (Int32.toNatClampNeg (nI k)) = -1
      · exact Or.inl (okP_f ng (okP_be e1 (okP_t z (okP_be e2 (okP_f o (okP_bnd (okP_f o (okP_t z2 (okP_some I4)))))))))
      · exact Or.inr ⟨_, eq_f ng (eq_b e1 (eq_t z (eq_b e2 (eq_f o (eq_n (eq_f o (eq_f z2 (by rw [k1])))))))), I4⟩
    · exact Or.inr ⟨M2, eq_f ng (eq_b e1 (eq_f z (by rw [k1]))), I2⟩
  · show okP (bX11_planNeeded_2 n0 (loopN (bX11_planNeeded_2 n0) (fun _ _ _ _ => none) w) x1 (nI most) (nI T.nc) u) _
    unfold bX11_planNeeded_2
    exact okP_t (by rw [hu.nc]; exact Int32.le_refl _) (okP_some hu)
theorem xcnt {n0 q m : Nat} {T : TP} {pm : Nat → Int32 × Nat} {s : Nat × List (Nat × Nat)} {M0 M : Mem} (hn : 1700 ≤ n0) (hI : PlI n0 q T m pm s M0 M) : ∃ r, fX11_countPlanned n0 M = some (r, M) := by
  have o2 := hI.2.1.2.1.2.1
  have l : okP (fX11_countPlanned n0 M) (fun z => z.2 = M) := by
    refine lpG (L := fun w k (u : Int32) => loopN (bX11_countPlanned_4 n0) (fun _ _ _ => none) w u (nI k) M) (n := T.nc) (I := fun _ => True) (fun w k u hk _ => Or.inr ?_) (fun w u _ => ?_) n0 0 (0 : Int32) (by omega) (by omega) trivial
    · show ∃ s', bX11_countPlanned_4 n0 (loopN (bX11_countPlanned_4 n0) (fun _ _ _ => none) w) u (nI k) M = _ ∧ _
      have ng : ¬ gI M (128 * gR M 1 + 5) ≤ nI k := by rw [hI.nc]; exact nI_ge (by omega) (by omega)
      have k1 : nI k + 1 = nI (k + 1) := nI_add k 1
      unfold bX11_countPlanned_4 fX11_countPlanned_28
      by_cases z : gA M 28 (Int32.toNatClampNeg (nI k)) = -1
      · exact ⟨u, eq_f ng (eq_f (nI_in (by omega) (by decide)) (eq_t z (by rw [k1]))), trivial⟩
      · exact ⟨u + 1, eq_f ng (eq_f (nI_in (by omega) (by decide)) (eq_f z (by rw [k1]))), trivial⟩
    · show okP (bX11_countPlanned_4 n0 (loopN (bX11_countPlanned_4 n0) (fun _ _ _ => none) w) u (nI T.nc) M) _
      unfold bX11_countPlanned_4
      exact okP_t (by rw [hI.nc]; exact Int32.le_refl _) (okP_some rfl)
  obtain ⟨⟨r, M'⟩, a, e⟩ := l
  have e' : M' = M := e
  exact ⟨r, by rw [a, e']⟩
theorem nI_dn (k : Nat) : nI k + (-1 : Int32) = nI k - 1 := by rw [Int32.sub_eq_add_neg]
abbrev xpAL (n0 : Nat) : Nat → Int32 → Int32 → Int32 → Mem → Option (Int32 × Mem) := loopN (bX11_planAnywhere_10 n0) (fun _ _ _ _ => none)
theorem xanyw {n0 q m most : Nat} {x1 : Int32} {T : TP} {pm : Nat → Int32 × Nat} {s : Nat × List (Nat × Nat)} {M0 : Mem} (hn : 1700 ≤ n0) (hm : m ≤ 9999) (hmo : most ≤ 20) : ∀ w k M, k < w → k ≤ T.nc → PlI n0 q T m pm s M0 M → okP (xpAL n0 w x1 (nI most) (nI k - 1) M) (fun z => PlI n0 q T m pm s M0 z.2)
  | 0, k, M, hw, _, _ => by omega
  | w + 1, 0, M, hw, hk, hI => by
    show okP (bX11_planAnywhere_10 n0 (xpAL n0 w) x1 (nI most) (nI 0 - 1) M) _
    unfold bX11_planAnywhere_10
    exact okP_t (by decide) (okP_some hI)
  | w + 1, k + 1, M, hw, hk, hI => by
    show okP (bX11_planAnywhere_10 n0 (xpAL n0 w) x1 (nI most) (nI (k + 1) - 1) M) _
    have o2 := hI.2.1.2.1.2.1
    have e0 : nI (k + 1) - 1 = nI k := by rw [show (1 : Int32) = nI 1 from rfl, nI_subN (by omega)]; rfl
    have o : ¬ oob (nI k) 5 := nI_in (by omega) (by decide)
    rw [e0]
    obtain ⟨⟨r2, M3⟩, e2, I3⟩ := xfind (n0 := n0) (x2 := x1) hn hm hI (show k < T.nc by omega) hmo
    have I4 : PlI n0 q T m pm s M0 (sA M3 28 (Int32.toNatClampNeg (nI k)) r2) := PlI.a28 I3
    unfold bX11_planAnywhere_10
    refine okP_f (nI_nn (by omega)) (okP_be e2 (okP_f o (okP_bnd (okP_f o (okP_ite (fun _ => ?_) (fun _ => okP_some I4))))))
    rw [nI_dn]
    exact xanyw hn hm hmo w k _ (by omega) (by omega) I4
theorem xplan {n0 q b : Nat} {T : TP} {nr C m : Nat} {pm : Nat → Int32 × Nat} {s : Nat × List (Nat × Nat)} {x y z : Int32} {MX MY : Mem} (hn : 1700 ≤ n0) (h : RR n0 q b T nr C m pm s MX MY) : okP (fX11_plan n0 x y z MX) (fun u => XF scA MX u.2) := by
  obtain ⟨h1, h2, h3, h4, _⟩ := id h
  obtain ⟨o1, o2, o3, _⟩ := h1.2.2.2.1.2.1
  have hm := h2.1
  have e0 : ∀ {v : Int32}, okP (some (v, MX)) (fun u => XF scA MX u.2) := okP_some XF.r
  have I0 : PlI n0 q T m pm s MX MX := ⟨XF.r, h1.2.2.2.1, h3, h1.2.1⟩
  unfold fX11_plan
  refine okP_ite (fun _ => e0) (fun _ => okP_ite (fun _ => e0) (fun _ => okP_ite (fun _ => e0) (fun z1 => okP_ite (fun _ => e0) (fun z2 => ?_))))
  have ym : ∃ k, k ≤ 20 ∧ y = nI k := by
    rcases in_or (n := 21) y (by decide) with ⟨k, hk, rfl⟩ | u
    · exact ⟨k, by omega, rfl⟩
    · exfalso
      rcases u with u | u
      · exact z1 u
      · rw [i_lt] at z2
        rw [i_le] at u
        have a1 : (20 : Int32).toInt = 20 := rfl
        have a2 : (nI 21).toInt = 21 := rfl
        omega
  obtain ⟨mo, hmo, rfl⟩ := ym
  have n94 : ∀ (u0 : Int32) M, (z = -1 ∨ ∃ c, c < 5 ∧ z = nI c) → PlI n0 q T m pm s MX M → okP (fX11_plan_94 n0 z u0 M) (fun u => XF scA MX u.2) := fun u0 M hz hI => by
    obtain ⟨r, er⟩ := xcnt (n0 := n0) hn hI
    unfold fX11_plan_94
    refine okP_ite (fun _ => okP_some hI.1) (fun _ => okP_ite (fun _ => okP_be er (okP_some hI.1)) (fun z3 => ?_))
    rcases hz with hz | ⟨c, hc, rfl⟩
    · exact absurd hz z3
    · exact okP_f (nI_in hc (by decide)) (okP_some hI.1)
  have n55 : (z = -1 ∨ ∃ c, c < 5 ∧ z = nI c) → okP (fX11_plan_55 n0 x (nI mo) z MX) (fun u => XF scA MX u.2) := fun hz => by
    unfold fX11_plan_55 fX11_plan_89 fX11_plan_93
    refine okP_bind (xnoth hn hm h2.2.1 I0 hmo) (fun u1 I1 => okP_ite (fun _ => ?_) (fun _ => n94 _ _ hz I1))
    refine okP_bind (xneed hn hm h2.2.1 I1 hmo) (fun u2 I2 => okP_ite (fun _ => n94 _ _ hz I2) (fun _ => ?_))
    obtain ⟨r, er⟩ := xcnt (n0 := n0) hn I2
    refine okP_be er (okP_ite (fun _ => n94 _ _ hz I2) (fun _ => ?_))
    have ea : okP (fX11_planAnywhere n0 x (nI mo) u2.2) (fun u => PlI n0 q T m pm s MX u.2) := by
      unfold fX11_planAnywhere
      refine okP_bnd ?_
      rw [I2.nc]
      exact xanyw hn hm hmo n0 T.nc u2.2 (by omega) (Nat.le_refl _) I2
    exact okP_bind ea (fun u3 I3 => okP_ite (fun _ => n94 _ _ hz I3) (fun _ => n94 _ _ hz I3))
  refine okP_be (xbey h3 hm (by omega)) (okP_ite (fun _ => okP_ite (fun z3 => n55 (Or.inl z3)) (fun _ => ?_)) (fun _ => e0))
  rcases isCo h1 z with ⟨c, hc, rfl, e1, _⟩ | ⟨_, e1, _⟩
  · exact okP_be e1 (okP_f (show ¬ (1 : Int32) = 0 by decide) (n55 (Or.inr ⟨c, by omega, rfl⟩)))
  · exact okP_be e1 (okP_t rfl e0)
end
section
/-! PLANS COME TO AN END, BY THE REFERENCE -/
def plP (a i : Nat) : Prop := lP 1 a i ∨ a = 36 ∨ a = 37
theorem plP28 : ∀ a i, plP a i → 28 ≤ a := fun a i z => by unfold plP lP tP dP at z; omega
theorem plPsc {M M' : Mem} (f : YF plP M M') : YF scP M M' := f.wk (fun a i z => by
  rcases z with z | z | z
  · exact Or.inl z
  · exact Or.inr (by omega)
  · exact Or.inr (by omega))
theorem plP1 {M M' : Mem} (f : YF (lP 1) M M') : YF plP M M' := f.wk (fun a i z => Or.inl z)
def gvC (T : TP) (M : Mem) (k : Nat) : Prop := ∀ c, k ≤ c → c < T.nc → tOk T.nt (gA M 36 c)
theorem gvC.fr {T : TP} {M M' : Mem} {k : Nat} (h : gvC T M k) (f : YF (lP 1) M M') : gvC T M' k := fun c h1 h2 => by
  rw [f.2.2.2.1 36 c (by decide) (by unfold lP tP dP; omega)]
  exact h c h1 h2
abbrev y57L (n0 : Nat) : Nat → Int32 → Int32 → Int32 → Mem → Option (Int32 × Mem) := loopN (bX12_isDoneBy_57 n0) (fun _ _ _ _ => none)
theorem y57 {n0 b m n : Nat} {T : TP} {x1 : Int32} (hn : 1700 ≤ n0) (hm : m + n ≤ 9999) : ∀ w j M (pm : Nat → Int32 × Nat) (s : Nat × List (Nat × Nat)), j ≤ n → n < w + j → YT n0 b T M → LyD 1 T.nc (m + j) pm s M → PsO T.nt T.nc pm → sOk T.nd s → okP (y57L n0 w x1 (nI n) (nI j) M) (fun z => YF (lP 1) M z.2)
  | 0, j, M, _, _, hj, hw, _, _, _, _ => by omega
  | w + 1, j, M, pm, s, hj, hw, hY, hL, hO, hs => by
    show okP (bX12_isDoneBy_57 n0 (y57L n0 w) x1 (nI n) (nI j) M) _
    unfold bX12_isDoneBy_57
    by_cases g : j = n
    · exact okP_t (by rw [g]; exact Int32.le_refl _) (okP_f (by decide) (okP_ite (fun _ => okP_some YF.r) (fun _ => okP_some YF.r)))
    · obtain ⟨M1, a1, a2, a3, a4⟩ := ypassD (v := 1) hn hY (by decide) hL hO hs (by omega)
      refine okP_f (nI_ge (by omega) (by omega)) (okP_be a1 ?_)
      rw [show nI j + 1 = nI (j + 1) from nI_add j 1]
      exact okP_mono (y57 hn hm w (j + 1) M1 _ _ (by omega) (by omega) (hY.yf a4 lP28) a2 (nxP_ok hO) a3) (fun z hz => a4.tr hz)
abbrev y8L (n0 : Nat) : Nat → Int32 → Int32 → Int32 → Mem → Option (Int32 × Mem) := loopN (bX12_isDoneBy_8 n0) (fun _ _ _ _ => none)
theorem y8 {n0 b m n : Nat} {T : TP} {x1 : Int32} {s : Nat × List (Nat × Nat)} (hn : 1700 ≤ n0) (hm : m + n ≤ 9999) (h60 : n ≤ 60) (hs : sOk T.nd s) : ∀ w c M (pm : Nat → Int32 × Nat), c ≤ T.nc → T.nc < w + c → YT n0 b T M → LyD 1 T.nc m pm s M → PsO T.nt T.nc pm → gvC T M 0 → okP (y8L n0 w x1 (nI n) (nI c) M) (fun z => YF (lP 1) M z.2)
  | 0, c, M, _, hc, hw, _, _, _, _ => by omega
  | w + 1, c, M, pm, hc, hw, hY, hL, hO, hg => by
    show okP (bX12_isDoneBy_8 n0 (y8L n0 w) x1 (nI n) (nI c) M) _
    have hb := hY.2.2.1
    have o2 := hY.2.1.2.1
    have h13 := hY.2.2.2.1
    have o13 : ¬ oob (gI M 13) 2 := by rw [h13]; exact nI_in (by omega) (by decide)
    have yc : gA M 5 (gI M 13).toNatClampNeg = nI T.nc := by rw [h13, nI_clamp (by omega)]; exact hY.2.2.2.2.2.1
    unfold bX12_isDoneBy_8 fX12_isDoneBy_43
    by_cases g : c = T.nc
    · obtain ⟨M1, a1, a2, a3⟩ := yfinD (v := 1) hn hY (by decide) hL hO hs (by omega)
      refine okP_f o13 (okP_t (by rw [yc, g]; exact Int32.le_refl _) (okP_be a1 ?_))
      exact okP_mono (y57 (n0 := n0) hn hm n0 0 M1 pm _ (by omega) (by omega) (hY.yf a3 lP28) a2 hO (fnS_ok hY.2.1.2.2.1 hs _ (Nat.le_refl _))) (fun z hz => a3.tr hz)
    · have o : ¬ oob (nI c) 5 := nI_in (by omega) (by decide)
      have ck : (nI c).toNatClampNeg = c := nI_clamp (by omega)
      have c1 : nI c + 1 = nI (c + 1) := nI_add c 1
      refine okP_f o13 (okP_f (by rw [yc]; exact nI_ge (by omega) (by omega)) (okP_f o (okP_ite (fun _ => ?_) (fun _ => okP_f o ?_))))
      · rw [c1]
        exact y8 hn hm h60 hs w (c + 1) M pm (by omega) (by omega) hY hL hO hg
      · obtain ⟨M1, a1, a2, a3⟩ := yput1 (n0 := n0) (t := gA M 36 (Int32.toNatClampNeg (nI c))) hL o2 (show c < T.nc by omega)
        refine okP_be a1 ?_
        rw [c1]
        exact okP_mono (y8 hn hm h60 hs w (c + 1) M1 _ (by omega) (by omega) (hY.yf a3 lP28) a2 (upP_ok hO ⟨by rw [ck]; exact hg c (Nat.zero_le _) (by omega), Nat.zero_le _⟩) (hg.fr a3)) (fun z hz => a3.tr hz)
theorem ydone {n0 b m n : Nat} {T : TP} {x1 : Int32} {pm : Nat → Int32 × Nat} {s : Nat × List (Nat × Nat)} {M : Mem} (hn : 1700 ≤ n0) (hm : m + n ≤ 9999) (h60 : n ≤ 60) (hs : sOk T.nd s) (hY : YT n0 b T M) (hL : LyD 0 T.nc m pm s M) (hO : PsO T.nt T.nc pm) (hg : gvC T M 0) : okP (fX12_isDoneBy n0 x1 (nI n) M) (fun z => YF (lP 1) M z.2) := by
  have o2 := hY.2.1.2.1
  obtain ⟨Y1, b1, b2, b3⟩ := ycopyD (n0 := n0) (v := 1) (u := 0) hn (by decide) (by decide) (by decide) o2 hs.l hL
  unfold fX12_isDoneBy
  refine okP_be b1 ?_
  exact okP_mono (y8 (n0 := n0) hn hm h60 hs n0 0 Y1 pm (by omega) (by omega) (hY.yf b3 lP28) b2 hO (hg.fr b3)) (fun z hz => b3.tr hz)
/-- what the plans of the reference stand on -/
def PlY (n0 b : Nat) (T : TP) (m : Nat) (pm : Nat → Int32 × Nat) (s : Nat × List (Nat × Nat)) (M0 M : Mem) : Prop := YF plP M0 M ∧ YT n0 b T M ∧ LyD 0 T.nc m pm s M
theorem PlY.fr {n0 b m : Nat} {T : TP} {pm : Nat → Int32 × Nat} {s : Nat × List (Nat × Nat)} {M0 M M' : Mem} (h : PlY n0 b T m pm s M0 M) (hl : s.2.length ≤ 40) (f : YF plP M M') : PlY n0 b T m pm s M0 M' := ⟨h.1.tr f, h.2.1.yf f plP28, h.2.2.fr f h.2.1.2.1.2.1 hl (fun a i z y => by unfold plP lP tP dP at z; unfold lP tP dP at y; omega)⟩
theorem PlY.o13 {n0 b m : Nat} {T : TP} {pm : Nat → Int32 × Nat} {s : Nat × List (Nat × Nat)} {M0 M : Mem} (h : PlY n0 b T m pm s M0 M) : ¬ oob (gI M 13) 2 := by
  have := h.2.1.2.2.1
  rw [h.2.1.2.2.2.1]; exact nI_in (by omega) (by decide)
theorem PlY.nc {n0 b m : Nat} {T : TP} {pm : Nat → Int32 × Nat} {s : Nat × List (Nat × Nat)} {M0 M : Mem} (h : PlY n0 b T m pm s M0 M) : gA M 5 (Int32.toNatClampNeg (gI M 13)) = nI T.nc := by
  have := h.2.1.2.2.1
  rw [h.2.1.2.2.2.1, nI_clamp (by omega)]; exact h.2.1.2.2.2.2.2.1
theorem PlY.nt {n0 b m : Nat} {T : TP} {pm : Nat → Int32 × Nat} {s : Nat × List (Nat × Nat)} {M0 M : Mem} (h : PlY n0 b T m pm s M0 M) : gA M 2 (Int32.toNatClampNeg (gI M 13)) = nI T.nt := by
  have := h.2.1.2.2.1
  rw [h.2.1.2.2.2.1, nI_clamp (by omega)]; exact h.2.1.2.2.2.2.1
abbrev K95 : Type := Int32 → Int32 → Int32 → Int32 → Int32 → Int32 → Mem → Option (Int32 × Mem)
abbrev y225L (n0 : Nat) (k95 : K95) : Nat → Int32 → Int32 → Int32 → Int32 → Int32 → Int32 → Int32 → Mem → Option (Int32 × Mem) := loopN (bX12_plan_225 n0 k95) (fun _ _ _ _ _ _ _ _ => none)
theorem y225 {n0 b m : Nat} {T : TP} {x1 x2 x3 x4 x5 x6 : Int32} {k95 : K95} {pm : Nat → Int32 × Nat} {s : Nat × List (Nat × Nat)} {M0 M : Mem} (hn : 1700 ≤ n0) (hl : s.2.length ≤ 40) (hI : PlY n0 b T m pm s M0 M) : ∃ M', y225L n0 k95 n0 x1 x2 x3 x4 x5 x6 (nI 0) M = k95 x1 x2 x3 x4 x5 (x6 + 1) M' ∧ PlY n0 b T m pm s M0 M' := by
  have o2 := hI.2.1.2.1.2.1
  refine lpC (L := fun w k u => y225L n0 k95 w x1 x2 x3 x4 x5 x6 (nI k) u) (F := fun u => k95 x1 x2 x3 x4 x5 (x6 + 1) u) (n := T.nc) (I := fun u => PlY n0 b T m pm s M0 u) (fun w k u hk hu => ?_) (fun w u hu => ?_) n0 0 M (by omega) (by omega) hI
  · show ∃ s', bX12_plan_225 n0 k95 (y225L n0 k95 w) x1 x2 x3 x4 x5 x6 (nI k) u = _ ∧ _
    have o : ¬ oob (nI k) 5 := nI_in (by omega) (by decide)
    refine ⟨sA u 37 (Int32.toNatClampNeg (nI k)) (gA u 36 (Int32.toNatClampNeg (nI k))), ?_, hu.fr hl (YF.r.a (Or.inr (Or.inr rfl)))⟩
    unfold bX12_plan_225
    exact eq_f hu.o13 (eq_f (by rw [hu.nc]; exact nI_ge (by omega) (by omega)) (eq_f o (eq_f o (eq_n (by rw [show nI k + 1 = nI (k + 1) from nI_add k 1])))))
  · show ∃ s', bX12_plan_225 n0 k95 (y225L n0 k95 w) x1 x2 x3 x4 x5 x6 (nI T.nc) u = _ ∧ _
    refine ⟨u, ?_, hu⟩
    unfold bX12_plan_225 fX12_plan_259
    exact eq_f hu.o13 (eq_t (by rw [hu.nc]; exact Int32.le_refl _) rfl)
abbrev y122L (n0 : Nat) (k95 : K95) : Nat → Int32 → Int32 → Int32 → Int32 → Int32 → Int32 → Int32 → Int32 → Int32 → Mem → Option (Int32 × Mem) := loopN (bX12_plan_122 n0 k95) (fun _ _ _ _ _ _ _ _ _ _ => none)
theorem y122 {n0 b m n : Nat} {T : TP} {x1 x3 x4 x5 x6 : Int32} {k95 : K95} {pm : Nat → Int32 × Nat} {s : Nat × List (Nat × Nat)} {M0 : Mem} (hn : 1700 ≤ n0) (hm : m + n ≤ 9999) (h60 : n ≤ 60) (hs : sOk T.nd s) (hO : PsO T.nt T.nc pm) : ∀ w k v (x8 : Int32) M, k < w → k ≤ T.nc → v ≤ 20000 → PlY n0 b T m pm s M0 M → gvC T M k → ∃ y M', y122L n0 k95 w x1 (nI n) x3 x4 x5 x6 (nI v) x8 (nI k - 1) M = k95 x1 (nI n) x3 x4 y (x6 + 1) M' ∧ PlY n0 b T m pm s M0 M'
  | 0, k, v, _, M, hw, _, _, _, _ => by omega
  | w + 1, 0, v, x8, M, hw, hk, hv, hI, hg => by
    show ∃ y M', bX12_plan_122 n0 k95 (y122L n0 k95 w) x1 (nI n) x3 x4 x5 x6 (nI v) x8 (nI 0 - 1) M = _ ∧ _
    have hl := hs.l
    have n206 : ∃ y M', fX12_plan_206 n0 k95 x1 (nI n) x3 x4 x5 x6 x8 M = k95 x1 (nI n) x3 x4 y (x6 + 1) M' ∧ PlY n0 b T m pm s M0 M' := by
      obtain ⟨⟨r, M1⟩, a1, a2⟩ := ydone (n0 := n0) (x1 := x1) hn hm h60 hs hI.2.1 hI.2.2 hO hg
      have I1 : PlY n0 b T m pm s M0 M1 := hI.fr (by omega) (plP1 a2)
      unfold fX12_plan_206 fX12_plan_259
      by_cases z : r = 0
      · exact ⟨x5, M1, eq_b a1 (eq_t z rfl), I1⟩
      · obtain ⟨M2, b1, b2⟩ := y225 (n0 := n0) (x1 := x1) (x2 := nI n) (x3 := x3) (x4 := x4) (x5 := x8) (x6 := x6) (k95 := k95) hn (by omega) I1
        exact ⟨x8, M2, eq_b a1 (eq_f z b1), b2⟩
    unfold bX12_plan_122
    by_cases z : x5 = -1
    · obtain ⟨y, M', c1, c2⟩ := n206
      exact ⟨y, M', eq_t (by decide) (eq_t z c1), c2⟩
    · by_cases z2 : x5 ≤ x8
      · exact ⟨x5, M, eq_t (by decide) (eq_f z (eq_t z2 rfl)), hI⟩
      · obtain ⟨y, M', c1, c2⟩ := n206
        exact ⟨y, M', eq_t (by decide) (eq_f z (eq_f z2 c1)), c2⟩
  | w + 1, k + 1, v, x8, M, hw, hk, hv, hI, hg => by
    show ∃ y M', bX12_plan_122 n0 k95 (y122L n0 k95 w) x1 (nI n) x3 x4 x5 x6 (nI v) x8 (nI (k + 1) - 1) M = _ ∧ _
    have hl := hs.l
    obtain ⟨o1, o2, _⟩ := hI.2.1.2.1
    have e0 : nI (k + 1) - 1 = nI k := by rw [show (1 : Int32) = nI 1 from rfl, nI_subN (by omega)]; rfl
    have o : ¬ oob (nI k) 5 := nI_in (by omega) (by decide)
    have ck : (nI k).toNatClampNeg = k := nI_clamp (by omega)
    have nt1 : nI T.nt + 1 = nI (T.nt + 1) := nI_add _ 1
    have gd : ¬ nI (T.nt + 1) = 0 := nI_ne0 (by omega) (by omega)
    have hdv : v / (T.nt + 1) ≤ 20000 := Nat.le_trans (Nat.div_le_self _ _) hv
    have hrv : v % (T.nt + 1) < T.nt + 1 := Nat.mod_lt _ (by omega)
    have ev : rem32 (nI v) (gA M 2 (Int32.toNatClampNeg (gI M 13)) + 1) - 1 = nI (v % (T.nt + 1)) - 1 := by
      rw [hI.nt, nt1, rem_nI (by omega) (by omega)]
    have tO : tOk T.nt (nI (v % (T.nt + 1)) - 1) := by
      by_cases z : v % (T.nt + 1) = 0
      · rw [z]; exact Or.inl (by decide)
      · refine Or.inr ⟨v % (T.nt + 1) - 1, by omega, ?_⟩
        rw [show (1 : Int32) = nI 1 from rfl, nI_subN (by omega)]
    have I1 : PlY n0 b T m pm s M0 (sA M 36 k (nI (v % (T.nt + 1)) - 1)) := hI.fr (by omega) (YF.r.a (Or.inr (Or.inl rfl)))
    have g1 : gvC T (sA M 36 k (nI (v % (T.nt + 1)) - 1)) k := fun c h1 h2 => by
      rw [gA_sA, if_pos rfl]
      by_cases z : c = k
      · rw [if_pos z]; exact tO
      · rw [if_neg z]; exact hg c (by omega) h2
    have nx : ∀ x8', ∃ y M', y122L n0 k95 w x1 (nI n) x3 x4 x5 x6 (nI (v / (T.nt + 1))) x8' (nI k + -1) (sA M 36 k (nI (v % (T.nt + 1)) - 1)) = k95 x1 (nI n) x3 x4 y (x6 + 1) M' ∧ PlY n0 b T m pm s M0 M' := fun x8' => by
      rw [nI_dn]
      exact y122 hn hm h60 hs hO w k _ x8' _ (by omega) (by omega) hdv I1 g1
    have st : ∀ r, (if gA (sA M 36 k (nI (v % (T.nt + 1)) - 1)) 36 (Int32.toNatClampNeg (nI k)) = (-1 : Int32) then y122L n0 k95 w x1 (nI n) x3 x4 x5 x6 (nI (v / (T.nt + 1))) (x8 + 0) (nI k + -1) (sA M 36 k (nI (v % (T.nt + 1)) - 1)) else y122L n0 k95 w x1 (nI n) x3 x4 x5 x6 (nI (v / (T.nt + 1))) (x8 + 1) (nI k + -1) (sA M 36 k (nI (v % (T.nt + 1)) - 1))) = r → bX12_plan_122 n0 k95 (y122L n0 k95 w) x1 (nI n) x3 x4 x5 x6 (nI v) x8 (nI k) M = r := fun r hr => by
      unfold bX12_plan_122 fX12_plan_184
      refine eq_f (nI_nn (by omega)) (eq_f hI.o13 (eq_f (by rw [hI.nt, nt1]; exact gd) (eq_f o (eq_e (v' := sA M 36 k (nI (v % (T.nt + 1)) - 1)) (by rw [ev, ck]) (eq_f I1.o13 (eq_f (by rw [I1.nt, nt1]; exact gd) (eq_e (v' := nI (v / (T.nt + 1))) (by rw [I1.nt, nt1, nI_div (by omega) (by omega)]) (eq_f o hr))))))))
    rw [e0]
    by_cases z : gA (sA M 36 k (nI (v % (T.nt + 1)) - 1)) 36 (Int32.toNatClampNeg (nI k)) = (-1 : Int32)
    · obtain ⟨y, M', c1, c2⟩ := nx (x8 + 0)
      exact ⟨y, M', st _ (eq_t z c1), c2⟩
    · obtain ⟨y, M', c1, c2⟩ := nx (x8 + 1)
      exact ⟨y, M', st _ (eq_f z c1), c2⟩
theorem yplan {n0 q b : Nat} {T : TP} {nr C m : Nat} {pm : Nat → Int32 × Nat} {s : Nat × List (Nat × Nat)} {x y z : Int32} {MX MY : Mem} (hn : 20000 ≤ n0) (h : RR n0 q b T nr C m pm s MX MY) : okP (fX12_plan n0 x y z MY) (fun u => YF scP MY u.2) := by
  obtain ⟨h1, h2, h3, h4, _⟩ := id h
  obtain ⟨o1, o2, o3, _⟩ := h1.2.2.2.1.2.1
  have hm := h2.1
  have hl := h2.2.2.l
  have e0 : ∀ {v : Int32}, okP (some (v, MY)) (fun u => YF scP MY u.2) := okP_some YF.r
  have I0 : PlY n0 b T m pm s MY MY := ⟨YF.r, h1.2.2.2.2.1, h4⟩
  have pw : ∀ k, k ≤ 5 → (T.nt + 1) ^ k ≤ 16807 := fun k hk => Nat.le_trans (Nat.pow_le_pow_left (show T.nt + 1 ≤ 7 by omega) k) (Nat.le_trans (Nat.pow_le_pow_right (by decide) hk) (by decide))
  have nt1 : nI T.nt + 1 = nI (T.nt + 1) := nI_add _ 1
  unfold fX12_plan
  have ei : ∀ hi, ∃ r, fX12_is n0 x 0 hi MY = some (r, MY) := fun hi => by
    unfold fX12_is
    by_cases u : x < 0
    · exact ⟨_, eq_t u rfl⟩
    · by_cases u2 : hi < x
      · exact ⟨_, eq_f u (eq_t u2 rfl)⟩
      · exact ⟨_, eq_f u (eq_f u2 rfl)⟩
  obtain ⟨r, ei⟩ := ei (((1 : Int32) <<< ((gA MY 10 (Int32.toNatClampNeg (gI MY 13))) &&& 31)) - (1 : Int32))
  refine okP_f I0.o13 (okP_be ei (okP_ite (fun _ => e0) (fun _ => ?_)))
  rcases yah (n0 := n0) (lo := 0) (hi := 20) y h4.1.1 hm (by decide) (by decide) with ⟨n, n1, n2, n3, rfl, e⟩ | ⟨_, e⟩
  · have l95 : ∀ W, W ≤ 16807 → (z = -1 ∨ ∃ c, c < 5 ∧ z = nI c) → ∀ M1, PlY n0 b T m pm s MY M1 → okP (fX12_plan_95 n0 x (nI n) z (nI W) (-1) 0 M1) (fun u => YF scP MY u.2) := fun W hW hz M1 I1 => by
      refine lpG (L := fun w k (u : Int32 × Mem) => loopN (bX12_plan_95 n0) (fun _ _ _ _ _ _ _ => none) w x (nI n) z (nI W) u.1 (nI k) u.2) (n := W) (I := fun u => PlY n0 b T m pm s MY u.2) (fun w k u hk hu => Or.inr ?_) (fun w u hu => ?_) n0 0 (-1, M1) (by omega) (by omega) I1
      · show ∃ s', bX12_plan_95 n0 (loopN (bX12_plan_95 n0) (fun _ _ _ _ _ _ _ => none) w) x (nI n) z (nI W) u.1 (nI k) u.2 = _ ∧ _
        obtain ⟨y', M2, a1, a2⟩ := y122 (n0 := n0) (x1 := x) (x3 := z) (x4 := nI W) (x5 := u.1) (x6 := nI k) (k95 := loopN (bX12_plan_95 n0) (fun _ _ _ _ _ _ _ => none) w) (by omega) n3 (by omega) h2.2.2 h2.2.1 n0 T.nc k 0 u.2 (by omega) (Nat.le_refl _) (by omega) hu (fun c h1 h2 => by omega)
        refine ⟨(y', M2), ?_, a2⟩
        unfold bX12_plan_95
        refine eq_f (nI_ge hk (by omega)) (eq_f hu.o13 (eq_e (v' := nI T.nc - 1) (by rw [hu.nc]) (Eq.trans a1 ?_)))
        rw [show nI k + 1 = nI (k + 1) from nI_add k 1]
        rfl
      · show okP (bX12_plan_95 n0 (loopN (bX12_plan_95 n0) (fun _ _ _ _ _ _ _ => none) w) x (nI n) z (nI W) u.1 (nI W) u.2) _
        unfold bX12_plan_95
        refine okP_t (Int32.le_refl _) (okP_ite (fun _ => okP_some (plPsc hu.1)) (fun _ => okP_ite (fun _ => okP_some (plPsc hu.1)) (fun z3 => ?_)))
        rcases hz with hz | ⟨c, hc, rfl⟩
        · exact absurd hz z3
        · exact okP_f (nI_in hc (by decide)) (okP_some (plPsc hu.1))
    have l53 : (z = -1 ∨ ∃ c, c < 5 ∧ z = nI c) → okP (fX12_plan_47 n0 x (nI n) z MY) (fun u => YF scP MY u.2) := fun hz => by
      have l : ∀ w k, k ≤ T.nc → T.nc < w + k → okP (loopN (bX12_plan_53 n0) (fun _ _ _ _ _ _ => none) w x (nI n) z (nI ((T.nt + 1) ^ k)) (nI k) MY) (fun u => YF scP MY u.2) := fun w => by
        induction w with
        | zero => intro k hk hw; omega
        | succ w ih =>
          intro k hk hw
          show okP (bX12_plan_53 n0 (loopN (bX12_plan_53 n0) (fun _ _ _ _ _ _ => none) w) x (nI n) z (nI ((T.nt + 1) ^ k)) (nI k) MY) _
          unfold bX12_plan_53
          by_cases g : k = T.nc
          · exact okP_f I0.o13 (okP_t (by rw [I0.nc, g]; exact Int32.le_refl _) (l95 _ (pw k (by omega)) hz MY I0))
          · refine okP_f I0.o13 (okP_f (by rw [I0.nc]; exact nI_ge (by omega) (by omega)) (okP_f I0.o13 (okP_bnd ?_)))
            rw [I0.nt, nt1, nI_mul, show nI k + 1 = nI (k + 1) from nI_add k 1]
            exact ih (k + 1) (by omega) (by omega)
      exact l n0 0 (by omega) (by omega)
    refine okP_be e (okP_f (show ¬ (1 : Int32) = 0 by decide) (okP_ite (fun z3 => l53 (Or.inl z3)) (fun _ => ?_)))
    rcases isCo h1 z with ⟨c, hc, rfl, _, e2⟩ | ⟨_, _, e2⟩
    · exact okP_be e2 (okP_f (show ¬ (1 : Int32) = 0 by decide) (l53 (Or.inr ⟨c, by omega, rfl⟩)))
    · exact okP_be e2 (okP_t rfl e0)
  · exact okP_be e (okP_t rfl e0)
theorem nPlan {n0 : Nat} {x y z : Int32} {MX MY : Mem} (hn : 20000 ≤ n0) (h : R n0 MX MY) : CalN n0 (fX11_plan n0 x y z MX) (fX12_plan n0 x y z MY) := by
  obtain ⟨q, b, T, nr, C, m, pm, s, h⟩ := h
  exact CalN.scr h (xplan (by omega) h) (yplan hn h)
end
section
/-! BOTH SIDES AT FIRST -/
theorem own0 : ∀ i, i < 25 → gA MX0 4 i = nI (ownC i) := by decide +kernel
theorem town0 : TownR 31 0 0 0 0 0 0 MX0 MY0 :=
  ⟨⟨⟨rfl, rfl, by decide, fun i hi => absurd hi (Nat.not_lt_zero _)⟩, ⟨rfl, rfl, by decide, fun i hi => absurd hi (Nat.not_lt_zero _)⟩, ⟨rfl, rfl, by decide, fun i hi => absurd hi (Nat.not_lt_zero _)⟩⟩, fun i hi => absurd hi (Nat.not_lt_zero _), fun i hi => absurd hi (Nat.not_lt_zero _), fun i hi => absurd hi (Nat.not_lt_zero _), ⟨rfl, rfl, by decide, fun i hi => absurd hi (Nat.not_lt_zero _), fun _ _ _ _ => Or.inl ⟨rfl, fun i hi => absurd hi (Nat.not_lt_zero _)⟩⟩, ⟨0, by decide, rfl, rfl⟩, Or.inl ⟨rfl, rfl⟩, Or.inl ⟨rfl, rfl⟩, by decide⟩
theorem atFirst {n0 : Nat} (hn : 1700 ≤ n0) : ∃ M1, fX11_begin n0 MX0 = some M1 ∧ R n0 M1 MY0 := by
  have hX4 : ∃ X4, X4 = sI (sI (sR (sR MX0 896 31) 1280 31) 1281 0) 1285 0 := ⟨_, rfl⟩
  obtain ⟨X4, eX4⟩ := hX4
  have i4 : ∀ k, ¬ (k = 1281 ∨ k = 1285) → gI X4 k = gI MX0 k := fun k z => by
    rw [eX4, gI_ne (by omega), gI_ne (by omega)]
    rfl
  have a4 : gA X4 = gA MX0 := by rw [eX4]; rfl
  have r3 : gR X4 896 = 31 := by rw [eX4]; rfl
  have r4 : gR X4 1280 = 31 := by rw [eX4]; rfl
  have r1 : gR X4 1 = 31 := by rw [eX4]; rfl
  have r2 : gR X4 2 = 47 := by rw [eX4]; rfl
  have tw4 : xTw 31 MX0 X4 := ⟨fun k z _ => i4 k (by omega), fun a _ _ => by rw [a4]⟩
  have TR4 : TownR 31 0 0 0 0 0 0 X4 MY0 := town0.tw tw4 yTw.r
  obtain ⟨T, t1, t2, t3, t4, t5⟩ := townT (n0 := n0) hn TR4 (Or.inl rfl) (by decide) rfl
  have S4 : SX 31 T.nc T.nd 0 (fun _ => (-1, 0)) (0, []) X4 := by
    refine ⟨r3, r4, by rw [eX4, gI_ne (by decide), gI_at]; rfl, fun c hc => by omega, fun d hd => by omega, by rw [eX4, gI_at]; rfl, fun i p hp => by simp at hp⟩
  have Ps : PsO T.nt T.nc (fun _ => (-1, 0)) := fun c hc => by omega
  have sO : sOk T.nd (0, []) := ⟨Nat.pow_pos (by decide), Nat.zero_le _⟩
  obtain ⟨X6, d1, d2, d3⟩ := xfin hn t4 S4 Ps (by omega) sO
  have eF : fnS (due T (fun _ => (-1, 0)) 0) 0 (0, []) T.nd = (0, []) := by rw [t3]; rfl
  rw [eF] at d2
  have hX7 : ∃ X7, X7 = sI (sI X6 2050 0) 2688 0 := ⟨_, rfl⟩
  obtain ⟨X7, eX7⟩ := hX7
  have rX7 : gR X7 = gR X4 := by rw [eX7]; exact d3.1
  have iX7 : ∀ k, ¬ (k = 2050 ∨ k = 2688) → gI X7 k = gI X6 k := fun k z => by rw [eX7, gI_ne (by omega), gI_ne (by omega)]
  have iX6 : ∀ k, ¬ ((897 ≤ k ∧ k ≤ 900) ∨ k = 903 ∨ stI k) → gI X6 k = gI X4 k := d3.2.2.2.2
  have aX7 : gA X7 = gA X6 := by rw [eX7]; rfl
  have aX6 : ∀ a, ¬ (a = 8 ∨ a = 9 ∨ stA a) → gA X6 a = gA MX0 a := fun a z => by rw [d3.2.2.2.1 a z, a4]
  have tw7 : xTw 31 X4 X7 := ⟨fun k p1 p2 => (iX7 k (by omega)).trans (iX6 k (by unfold stI; omega)), fun a p1 p2 => by rw [aX7, aX6 a (by unfold stA; omega), a4]⟩
  have xI : ∀ k, k = 14 ∨ k = 15 ∨ k = 16 ∨ k = 17 ∨ k = 641 ∨ k = 2049 → gI X7 k = gI MX0 k := fun k z => (iX7 k (by omega)).trans ((iX6 k (by unfold stI; omega)).trans (i4 k (by omega)))
  have xA : ∀ a, a = 4 ∨ a = 6 ∨ a = 29 ∨ a = 30 → gA X7 a = gA MX0 a := fun a z => by rw [aX7, aX6 a (by unfold stA; omega)]
  refine ⟨X7, ?_, 31, 0, T, 0, 0, 0, (fun _ => (-1, 0)), (0, []), ⟨Or.inl rfl, by rw [rX7]; exact r1, by rw [rX7]; exact r2, t4.tw tw7, t5, ?_, rfl, rfl, rfl⟩, ⟨by omega, Ps, sO⟩, d2.cgs (by rw [eX7]; rfl) (iX7 1281 (by decide)) (iX7 1285 (by decide)) (fun a _ _ => by rw [aX7]), ?_, ?_, ?_, ?_, ?_, ?_, ?_, ?_, ?_⟩
  · unfold fX11_begin
    refine eq_n (eq_b (z := X4) ?_ (eq_b d1 (eq_n ?_)))
    · unfold fX6_begin
      refine eq_n (eq_n (eq_e (v' := X4) (by rw [eX4]; rfl) ?_))
      obtain ⟨w, rfl⟩ : ∃ w, n0 = w + 1 := ⟨n0 - 1, by omega⟩
      show bX6_begin_17 (w + 1) 31 (xbC (w + 1) 31 w) 0 X4 = _
      unfold bX6_begin_17
      refine eq_t (by rw [r4, i4 _ (by omega)]; decide) ?_
      show bX6_begin_50 (w + 1) 31 (xbD (w + 1) 31 w) 0 X4 = _
      unfold bX6_begin_50
      exact eq_t (by rw [r4, i4 _ (by omega)]; decide) rfl
    · rw [eX7]
  · have := TR4.tw tw7 yTw.r
    rw [t1, t2, t3]
    exact this
  · exact ⟨⟨rfl, fun c hc => by omega⟩, rfl, rfl, fun i p hp => by simp at hp⟩
  · refine ⟨0, 0, 0, fun _ => (0, (fun _ => (-1, 0)), 0, 0), by decide, by decide, by decide, by rw [xI 2049 (by omega)]; rfl, by rw [eX7, gI_ne (by decide), gI_at]; rfl, rfl, rfl, fun i hi => by omega, fun i j _ hj => by omega⟩
  · exact ⟨0, by omega, by rw [eX7, gI_at]; rfl, rfl, fun k hk => by omega⟩
  · exact ⟨1, by decide, by rw [xI 17 (by omega)]; rfl, rfl⟩
  · exact ⟨0, by decide, by rw [xI 14 (by omega)]; rfl, rfl, fun k hk => by omega⟩
  · intro k hk
    rw [xA 30 (by omega)]
    rfl
  · exact ⟨by rw [xI 15 (by omega)]; rfl, by rw [xI 16 (by omega)]; rfl⟩
  · exact ⟨0, by decide, by rw [xI 641 (by omega)]; rfl, rfl, by rw [xA 6 (by omega)]; rfl, fun i hi => by omega⟩
  · intro i hi
    rw [xA 4 (by omega)]
    exact own0 i hi
end
section
/-! THE LAW, CALL AFTER CALL -/
theorem stC {n0 : Nat} {f g : Option (Int32 × Mem)} (h : Cal n0 f g) : ∃ Z : Mem × Mem, (f.bind fun zx => g.bind fun zy => if zx.1 = zy.1 then some (zx.2, zy.2) else none) = some Z ∧ R n0 Z.1 Z.2 := by
  obtain ⟨r, MX', MY', h1, h2, h3⟩ := h
  exact ⟨(MX', MY'), eq_b h1 (eq_b h2 (eq_t rfl rfl)), h3⟩
theorem stN {n0 : Nat} {f g : Option (Int32 × Mem)} (h : CalN n0 f g) : ∃ Z : Mem × Mem, (f.bind fun zx => g.bind fun zy => some (zx.2, zy.2)) = some Z ∧ R n0 Z.1 Z.2 := by
  obtain ⟨r, r', MX', MY', h1, h2, h3⟩ := h
  exact ⟨(MX', MY'), eq_b h1 (eq_b h2 rfl), h3⟩
theorem stQ {n0 : Nat} {f g : Option (Int64 × Mem)} (h : CalL n0 f g) : ∃ Z : Mem × Mem, (f.bind fun zx => g.bind fun zy => some (zx.2, zy.2)) = some Z ∧ R n0 Z.1 Z.2 := by
  obtain ⟨r, r', MX', MY', h1, h2, h3⟩ := h
  exact ⟨(MX', MY'), eq_b h1 (eq_b h2 rfl), h3⟩
theorem sg0 {n0 : Nat} {a : Nat → Int32} {MX MY : Mem} (hn : 20000 ≤ n0) (h : R n0 MX MY) : ∃ Z, stp0 n0 a MX MY = some Z ∧ R n0 Z.1 Z.2 := by
  have hn1 : 1700 ≤ n0 := by omega
  unfold stp0
  exact stN (cFeed hn1 h).n
theorem sg1 {n0 : Nat} {a : Nat → Int32} {MX MY : Mem} (hn : 20000 ≤ n0) (h : R n0 MX MY) : ∃ Z, stp1 n0 a MX MY = some Z ∧ R n0 Z.1 Z.2 := by
  have hn1 : 1700 ≤ n0 := by omega
  unfold stp1
  exact stN (cEnd h).n
theorem sg2 {n0 : Nat} {a : Nat → Int32} {MX MY : Mem} (hn : 20000 ≤ n0) (h : R n0 MX MY) : ∃ Z, stp2 n0 a MX MY = some Z ∧ R n0 Z.1 Z.2 := by
  have hn1 : 1700 ≤ n0 := by omega
  unfold stp2
  exact stN (cTown hn1 h).n
theorem sg3 {n0 : Nat} {a : Nat → Int32} {MX MY : Mem} (hn : 20000 ≤ n0) (h : R n0 MX MY) : ∃ Z, stp3 n0 a MX MY = some Z ∧ R n0 Z.1 Z.2 := by
  have hn1 : 1700 ≤ n0 := by omega
  unfold stp3
  exact stN (cFault h).n
theorem sg4 {n0 : Nat} {a : Nat → Int32} {MX MY : Mem} (hn : 20000 ≤ n0) (h : R n0 MX MY) : ∃ Z, stp4 n0 a MX MY = some Z ∧ R n0 Z.1 Z.2 := by
  have hn1 : 1700 ≤ n0 := by omega
  unfold stp4
  exact stN (cHas hn1 h).n
theorem sg5 {n0 : Nat} {a : Nat → Int32} {MX MY : Mem} (hn : 20000 ≤ n0) (h : R n0 MX MY) : ∃ Z, stp5 n0 a MX MY = some Z ∧ R n0 Z.1 Z.2 := by
  have hn1 : 1700 ≤ n0 := by omega
  unfold stp5
  exact stN (cLetter hn1 h).n
theorem sg6 {n0 : Nat} {a : Nat → Int32} {MX MY : Mem} (hn : 20000 ≤ n0) (h : R n0 MX MY) : ∃ Z, stp6 n0 a MX MY = some Z ∧ R n0 Z.1 Z.2 := by
  have hn1 : 1700 ≤ n0 := by omega
  unfold stp6
  exact stN (cThing h).n
theorem sg7 {n0 : Nat} {a : Nat → Int32} {MX MY : Mem} (hn : 20000 ≤ n0) (h : R n0 MX MY) : ∃ Z, stp7 n0 a MX MY = some Z ∧ R n0 Z.1 Z.2 := by
  have hn1 : 1700 ≤ n0 := by omega
  unfold stp7
  exact stN (cCorner h).n
theorem sg8 {n0 : Nat} {a : Nat → Int32} {MX MY : Mem} (hn : 20000 ≤ n0) (h : R n0 MX MY) : ∃ Z, stp8 n0 a MX MY = some Z ∧ R n0 Z.1 Z.2 := by
  have hn1 : 1700 ≤ n0 := by omega
  unfold stp8
  exact stN (cDoing h).n
theorem sg9 {n0 : Nat} {a : Nat → Int32} {MX MY : Mem} (hn : 20000 ≤ n0) (h : R n0 MX MY) : ∃ Z, stp9 n0 a MX MY = some Z ∧ R n0 Z.1 Z.2 := by
  have hn1 : 1700 ≤ n0 := by omega
  unfold stp9
  exact stN (cLater hn1 h).n
theorem sg10 {n0 : Nat} {a : Nat → Int32} {MX MY : Mem} (hn : 20000 ≤ n0) (h : R n0 MX MY) : ∃ Z, stp10 n0 a MX MY = some Z ∧ R n0 Z.1 Z.2 := by
  have hn1 : 1700 ≤ n0 := by omega
  unfold stp10
  exact stN (cWhen hn1 h).n
theorem sg11 {n0 : Nat} {a : Nat → Int32} {MX MY : Mem} (hn : 20000 ≤ n0) (h : R n0 MX MY) : ∃ Z, stp11 n0 a MX MY = some Z ∧ R n0 Z.1 Z.2 := by
  have hn1 : 1700 ≤ n0 := by omega
  unfold stp11
  exact stN (cAlike hn1 h).n
theorem sg12 {n0 : Nat} {a : Nat → Int32} {MX MY : Mem} (hn : 20000 ≤ n0) (h : R n0 MX MY) : ∃ Z, stp12 n0 a MX MY = some Z ∧ R n0 Z.1 Z.2 := by
  have hn1 : 1700 ≤ n0 := by omega
  unfold stp12
  exact stN (nPlan hn h)
theorem sg13 {n0 : Nat} {a : Nat → Int32} {MX MY : Mem} (hn : 20000 ≤ n0) (h : R n0 MX MY) : ∃ Z, stp13 n0 a MX MY = some Z ∧ R n0 Z.1 Z.2 := by
  have hn1 : 1700 ≤ n0 := by omega
  unfold stp13
  exact stN (cEvening hn1 h).n
theorem sg14 {n0 : Nat} {a : Nat → Int32} {MX MY : Mem} (hn : 20000 ≤ n0) (h : R n0 MX MY) : ∃ Z, stp14 n0 a MX MY = some Z ∧ R n0 Z.1 Z.2 := by
  have hn1 : 1700 ≤ n0 := by omega
  unfold stp14
  exact stQ (nOdds hn1 h)
theorem sg15 {n0 : Nat} {a : Nat → Int32} {MX MY : Mem} (hn : 20000 ≤ n0) (h : R n0 MX MY) : ∃ Z, stp15 n0 a MX MY = some Z ∧ R n0 Z.1 Z.2 := by
  have hn1 : 1700 ≤ n0 := by omega
  unfold stp15
  exact stN (nWay hn1 h)
theorem sg16 {n0 : Nat} {a : Nat → Int32} {MX MY : Mem} (hn : 20000 ≤ n0) (h : R n0 MX MY) : ∃ Z, stp16 n0 a MX MY = some Z ∧ R n0 Z.1 Z.2 := by
  have hn1 : 1700 ≤ n0 := by omega
  unfold stp16
  exact stN (nArrive hn1 h)
theorem sg17 {n0 : Nat} {a : Nat → Int32} {MX MY : Mem} (hn : 20000 ≤ n0) (h : R n0 MX MY) : ∃ Z, stp17 n0 a MX MY = some Z ∧ R n0 Z.1 Z.2 := by
  have hn1 : 1700 ≤ n0 := by omega
  unfold stp17
  exact stN (nEarly hn1 h)
theorem sg18 {n0 : Nat} {a : Nat → Int32} {MX MY : Mem} (hn : 20000 ≤ n0) (h : R n0 MX MY) : ∃ Z, stp18 n0 a MX MY = some Z ∧ R n0 Z.1 Z.2 := by
  have hn1 : 1700 ≤ n0 := by omega
  unfold stp18
  exact stN (cSee hn1 h).n
theorem sg19 {n0 : Nat} {a : Nat → Int32} {MX MY : Mem} (hn : 20000 ≤ n0) (h : R n0 MX MY) : ∃ Z, stp19 n0 a MX MY = some Z ∧ R n0 Z.1 Z.2 := by
  have hn1 : 1700 ≤ n0 := by omega
  unfold stp19
  exact stN (cHeld hn1 h).n
theorem sg20 {n0 : Nat} {a : Nat → Int32} {MX MY : Mem} (hn : 20000 ≤ n0) (h : R n0 MX MY) : ∃ Z, stp20 n0 a MX MY = some Z ∧ R n0 Z.1 Z.2 := by
  have hn1 : 1700 ≤ n0 := by omega
  unfold stp20
  exact stN (cTells hn1 h).n
theorem sg21 {n0 : Nat} {a : Nat → Int32} {MX MY : Mem} (hn : 20000 ≤ n0) (h : R n0 MX MY) : ∃ Z, stp21 n0 a MX MY = some Z ∧ R n0 Z.1 Z.2 := by
  have hn1 : 1700 ≤ n0 := by omega
  unfold stp21
  exact stN (cMinutes hn1 h).n
theorem sg22 {n0 : Nat} {a : Nat → Int32} {MX MY : Mem} (hn : 20000 ≤ n0) (h : R n0 MX MY) : ∃ Z, stp22 n0 a MX MY = some Z ∧ R n0 Z.1 Z.2 := by
  have hn1 : 1700 ≤ n0 := by omega
  unfold stp22
  exact stN (cChance hn1 h).n
theorem sg23 {n0 : Nat} {a : Nat → Int32} {MX MY : Mem} (hn : 20000 ≤ n0) (h : R n0 MX MY) : ∃ Z, stp23 n0 a MX MY = some Z ∧ R n0 Z.1 Z.2 := by
  have hn1 : 1700 ≤ n0 := by omega
  unfold stp23
  exact stN (cGive hn1 h).n
theorem sg24 {n0 : Nat} {a : Nat → Int32} {MX MY : Mem} (hn : 20000 ≤ n0) (h : R n0 MX MY) : ∃ Z, stp24 n0 a MX MY = some Z ∧ R n0 Z.1 Z.2 := by
  have hn1 : 1700 ≤ n0 := by omega
  unfold stp24
  exact stN (cTake hn1 h).n
theorem sg25 {n0 : Nat} {a : Nat → Int32} {MX MY : Mem} (hn : 20000 ≤ n0) (h : R n0 MX MY) : ∃ Z, stp25 n0 a MX MY = some Z ∧ R n0 Z.1 Z.2 := by
  have hn1 : 1700 ≤ n0 := by omega
  unfold stp25
  exact stN (cUndo hn1 h).n
theorem sg26 {n0 : Nat} {a : Nat → Int32} {MX MY : Mem} (hn : 20000 ≤ n0) (h : R n0 MX MY) : ∃ Z, stp26 n0 a MX MY = some Z ∧ R n0 Z.1 Z.2 := by
  have hn1 : 1700 ≤ n0 := by omega
  unfold stp26
  exact stN (cSeed h).n
theorem sg27 {n0 : Nat} {a : Nat → Int32} {MX MY : Mem} (hn : 20000 ≤ n0) (h : R n0 MX MY) : ∃ Z, stp27 n0 a MX MY = some Z ∧ R n0 Z.1 Z.2 := by
  have hn1 : 1700 ≤ n0 := by omega
  unfold stp27
  exact stN (cKept h).n
theorem sg28 {n0 : Nat} {a : Nat → Int32} {MX MY : Mem} (hn : 20000 ≤ n0) (h : R n0 MX MY) : ∃ Z, stp28 n0 a MX MY = some Z ∧ R n0 Z.1 Z.2 := by
  have hn1 : 1700 ≤ n0 := by omega
  unfold stp28
  exact stN (cImage hn1 h).n
theorem sg29 {n0 : Nat} {a : Nat → Int32} {MX MY : Mem} (hn : 20000 ≤ n0) (h : R n0 MX MY) : ∃ Z, stp29 n0 a MX MY = some Z ∧ R n0 Z.1 Z.2 := by
  have hn1 : 1700 ≤ n0 := by omega
  unfold stp29
  exact stN (cOctet h).n
theorem sg30 {n0 : Nat} {a : Nat → Int32} {MX MY : Mem} (hn : 20000 ≤ n0) (h : R n0 MX MY) : ∃ Z, stp30 n0 a MX MY = some Z ∧ R n0 Z.1 Z.2 := by
  have hn1 : 1700 ≤ n0 := by omega
  unfold stp30
  exact stC (cOn hn1 h)
theorem sg31 {n0 : Nat} {a : Nat → Int32} {MX MY : Mem} (hn : 20000 ≤ n0) (h : R n0 MX MY) : ∃ Z, stp31 n0 a MX MY = some Z ∧ R n0 Z.1 Z.2 := by
  have hn1 : 1700 ≤ n0 := by omega
  unfold stp31
  exact stN (cStatus h).n
theorem sgAll {n0 : Nat} {a : Nat → Int32} {MX MY : Mem} (hn : 20000 ≤ n0) (h : R n0 MX MY) (k : Nat) (hk : k < 32) : ∃ Z, stepL n0 k a MX MY = some Z ∧ R n0 Z.1 Z.2 := by
  rcases (show k = 0 ∨ k = 1 ∨ k = 2 ∨ k = 3 ∨ k = 4 ∨ k = 5 ∨ k = 6 ∨ k = 7 ∨ k = 8 ∨ k = 9 ∨ k = 10 ∨ k = 11 ∨ k = 12 ∨ k = 13 ∨ k = 14 ∨ k = 15 ∨ k = 16 ∨ k = 17 ∨ k = 18 ∨ k = 19 ∨ k = 20 ∨ k = 21 ∨ k = 22 ∨ k = 23 ∨ k = 24 ∨ k = 25 ∨ k = 26 ∨ k = 27 ∨ k = 28 ∨ k = 29 ∨ k = 30 ∨ k = 31 by omega) with rfl | rfl | rfl | rfl | rfl | rfl | rfl | rfl | rfl | rfl | rfl | rfl | rfl | rfl | rfl | rfl | rfl | rfl | rfl | rfl | rfl | rfl | rfl | rfl | rfl | rfl | rfl | rfl | rfl | rfl | rfl | rfl
  · exact sg0 (a := a) hn h
  · exact sg1 (a := a) hn h
  · exact sg2 (a := a) hn h
  · exact sg3 (a := a) hn h
  · exact sg4 (a := a) hn h
  · exact sg5 (a := a) hn h
  · exact sg6 (a := a) hn h
  · exact sg7 (a := a) hn h
  · exact sg8 (a := a) hn h
  · exact sg9 (a := a) hn h
  · exact sg10 (a := a) hn h
  · exact sg11 (a := a) hn h
  · exact sg12 (a := a) hn h
  · exact sg13 (a := a) hn h
  · exact sg14 (a := a) hn h
  · exact sg15 (a := a) hn h
  · exact sg16 (a := a) hn h
  · exact sg17 (a := a) hn h
  · exact sg18 (a := a) hn h
  · exact sg19 (a := a) hn h
  · exact sg20 (a := a) hn h
  · exact sg21 (a := a) hn h
  · exact sg22 (a := a) hn h
  · exact sg23 (a := a) hn h
  · exact sg24 (a := a) hn h
  · exact sg25 (a := a) hn h
  · exact sg26 (a := a) hn h
  · exact sg27 (a := a) hn h
  · exact sg28 (a := a) hn h
  · exact sg29 (a := a) hn h
  · exact sg30 (a := a) hn h
  · exact sg31 (a := a) hn h
theorem lawAll {n0 L : Nat} {xs : Nat → Int32} (hn : 20000 ≤ n0) : ∀ w j MX MY, 0 < w → L < j + 6 * w → R n0 MX MY → lawF n0 L xs w j MX MY = some ()
  | 0, _, _, _, h0, _, _ => absurd h0 (Nat.lt_irrefl 0)
  | w + 1, j, MX, MY, _, hw, h => by
    rw [lawF]
    by_cases g : j + 6 ≤ L
    · obtain ⟨Z, e1, e2⟩ := sgAll (a := fun t => xs (j + t)) hn h ((xs j).toBitVec.toNat % 32) (Nat.mod_lt _ (by decide))
      rw [if_pos g, e1, Option.bind_some]
      exact lawAll hn w (j + 6) Z.1 Z.2 (by omega) (by omega) e2
    · rw [if_neg g]
end
