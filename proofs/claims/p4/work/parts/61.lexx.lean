/-! THE NEXT WORD, NUMBER OR SIGN, as the class reads it -/
abbrev blk (x : Int32) : Prop := x = 32 ∨ x = 10
abbrev isLt (x : Int32) : Prop := 97 ≤ x ∧ x ≤ 122
abbrev isDg (x : Int32) : Prop := 48 ≤ x ∧ x ≤ 57
def SkB (t : Nat → Int32) (L p s : Nat) : Prop := p ≤ s ∧ s ≤ L ∧ (∀ i, p ≤ i → i < s → blk (t i)) ∧ (s < L → ¬ blk (t s))
def RnB (P : Int32 → Prop) (t : Nat → Int32) (L k e : Nat) : Prop := k ≤ e ∧ e ≤ L ∧ (∀ i, k ≤ i → i < e → P (t i)) ∧ (e < L → ¬ P (t e))
theorem RnB.uniq {P : Int32 → Prop} {t : Nat → Int32} {L p s s' : Nat} (h : RnB P t L p s) (h' : RnB P t L p s') : s = s' := by
  rcases Nat.lt_trichotomy s s' with g | g | g
  · exact absurd (h'.2.2.1 s h.1 g) (h.2.2.2 (Nat.lt_of_lt_of_le g h'.2.1))
  · exact g
  · exact absurd (h.2.2.1 s' h'.1 g) (h'.2.2.2 (Nat.lt_of_lt_of_le g h.2.1))
theorem SkB.uniq {t : Nat → Int32} {L p s s' : Nat} (h : SkB t L p s) (h' : SkB t L p s') : s = s' := RnB.uniq (P := blk) h h'
def vLt (t : Nat → Int32) (i : Nat) : Nat := (t i).toNatClampNeg - 96
def vDg (t : Nat → Int32) (i : Nat) : Nat := (t i).toNatClampNeg - 48
def e27 (f : Nat → Nat) : Nat → Nat
  | 0 => 0
  | n + 1 => 27 * e27 f n + f n
def e10 (f : Nat → Nat) : Nat → Nat
  | 0 => 0
  | n + 1 => 10 * e10 f n + f n
theorem in_nI {a b : Nat} {x : Int32} (hb : b < 2 ^ 31) (h : nI a ≤ x ∧ x ≤ nI b) (hab : a ≤ b) : ∃ j, a ≤ j ∧ j ≤ b ∧ x = nI j := by
  have h0 : ¬ x < 0 := by
    have h1 := h.1
    rw [i_le, nI_toInt (by omega)] at h1
    rw [i_lt]
    have : (0 : Int32).toInt = 0 := by decide
    omega
  obtain ⟨j, hj, rfl⟩ := nI_of2 (M := nI b) (n := b) (nI_toInt hb) h0 h.2
  exact ⟨j, (nI_leI (by omega) (by omega)).mp h.1, hj, rfl⟩
theorem isLt_v {t : Nat → Int32} {i : Nat} (h : isLt (t i)) : 1 ≤ vLt t i ∧ vLt t i ≤ 26 ∧ t i = nI (vLt t i + 96) := by
  obtain ⟨j, h1, h2, e⟩ := in_nI (a := 97) (b := 122) (by decide) h (by decide)
  unfold vLt
  rw [e, nI_clamp (by omega)]
  exact ⟨by omega, by omega, by congr 1; omega⟩
theorem isDg_v {t : Nat → Int32} {i : Nat} (h : isDg (t i)) : vDg t i ≤ 9 ∧ t i = nI (vDg t i + 48) := by
  obtain ⟨j, h1, h2, e⟩ := in_nI (a := 48) (b := 57) (by decide) h (by decide)
  unfold vDg
  rw [e, nI_clamp (by omega)]
  exact ⟨by omega, by congr 1; omega⟩
theorem lt_dg {x : Int32} (h : isLt x) : ¬ isDg x := fun g => by
  have := h.1
  have := g.2
  rw [i_le] at *
  have a : (97 : Int32).toInt = 97 := by decide
  have b : (57 : Int32).toInt = 57 := by decide
  omega
theorem lt_blk {x : Int32} (h : isLt x) : ¬ blk x := fun g => by
  rcases g with rfl | rfl <;> exact absurd h (by decide)
theorem dg_blk {x : Int32} (h : isDg x) : ¬ blk x := fun g => by
  rcases g with rfl | rfl <;> exact absurd h (by decide)
theorem rng_bI {a b x : Int32} {M : Mem} : (if x < a then some ((0 : Int32), M) else if b < x then some ((0 : Int32), M) else some ((1 : Int32), M)) = some (bI (a ≤ x ∧ x ≤ b), M) := by
  by_cases h1 : x < a
  · rw [if_pos h1, bI_f (fun h => absurd h.1 (Int32.not_le.mpr h1))]
  · by_cases h2 : b < x
    · rw [if_neg h1, if_pos h2, bI_f (fun h => absurd h.2 (Int32.not_le.mpr h2))]
    · rw [if_neg h1, if_neg h2, bI_t ⟨Int32.not_lt.mp h1, Int32.not_lt.mp h2⟩]
theorem xlet {n0 : Nat} {x : Int32} {M : Mem} : fX8_isLetter n0 x M = some (bI (isLt x), M) := by unfold fX8_isLetter; exact rng_bI
theorem xdig {n0 : Nat} {x : Int32} {M : Mem} : fX8_isDigit n0 x M = some (bI (isDg x), M) := by unfold fX8_isDigit; exact rng_bI
theorem xat {n0 L i : Nat} {M : Mem} (hL : gI M 641 = nI L) (h16 : L ≤ 1600) (hi : i < L) : fX7_at n0 (nI i) M = some (gA M 6 i, M) := by
  unfold fX7_at
  rw [if_neg (nI_pos (by omega)), hL, if_neg (nI_ge hi (by omega)), if_neg (nI_in (by omega) (by decide)), nI_clamp (by omega)]
theorem xat_end {n0 L i : Nat} {M : Mem} (hL : gI M 641 = nI L) (hi : L ≤ i) (h : i < 2 ^ 31) : fX7_at n0 (nI i) M = some (-1, M) := by
  unfold fX7_at
  rw [if_neg (nI_pos h), hL, if_pos (nI_le hi h)]
theorem xskip {n0 L : Nat} (h16 : L ≤ 1600) : ∀ (w p : Nat) (M : Mem), gI M 641 = nI L → p ≤ L → gI M 390 = nI p → L < w + p → okP (loopN (bX8_skipBlanks_5 n0) (fun _ _ => none) w (nI p) M) (fun M' => ∃ s, SkB (gA M 6) L p s ∧ M' = sI M 390 (nI s)) := by
  intro w
  induction w with
  | zero => intro p M _ _ _ h; omega
  | succ w ih =>
    intro p M hL hp h390 hw
    rw [lpS, bX8_skipBlanks_5]
    by_cases h : L ≤ p
    · refine okP_t (by rw [hL]; exact nI_le h (by omega)) (okP_some ⟨p, ⟨Nat.le_refl p, hp, fun i h1 h2 => by omega, fun h1 => by omega⟩, (sI_same h390).symm⟩)
    · have step : ∀ (hb : blk (gA M 6 p)), okP (fX8_skipBlanks_42 n0 (loopN (bX8_skipBlanks_5 n0) (fun _ _ => none) w) (nI p) M) (fun M' => ∃ s, SkB (gA M 6) L p s ∧ M' = sI M 390 (nI s)) := by
        intro hb
        unfold fX8_skipBlanks_42
        rw [nI_1]
        refine okP_bnd (okP_mono (ih (p + 1) (sI M 390 (nI (p + 1))) (by rw [gI_ne (by decide)]; exact hL) (by omega) gI_at (by omega)) ?_)
        intro M' ⟨s, hs, e⟩
        refine ⟨s, ⟨by have := hs.1; omega, hs.2.1, fun i h1 h2 => ?_, hs.2.2.2⟩, by rw [e, sI_sI]⟩
        by_cases hi : i = p
        · rw [hi]; exact hb
        · exact hs.2.2.1 i (by omega) h2
      refine okP_f (by rw [hL]; exact nI_ge (by omega) (by omega)) (okP_be (xat hL h16 (by omega)) ?_)
      refine okP_ite (fun hb => step (Or.inl hb)) (fun hb => okP_be (xat hL h16 (by omega)) ?_)
      refine okP_ite (fun hc => step (Or.inr hc)) (fun hc => okP_some ⟨p, ⟨Nat.le_refl p, hp, fun i h1 h2 => by omega, fun _ g => ?_⟩, (sI_same h390).symm⟩)
      rcases g with g | g
      · exact hb g
      · exact hc g
theorem ring96 (x y : Int32) : 27 * x + (y + 96) - 97 + 1 = 27 * x + y := by grind
theorem ring48 (x y : Int32) : 10 * x + (y + 48) - 48 = 10 * x + y := by grind
theorem nI_mul (a b : Nat) : nI a * nI b = nI (a * b) := (Int32.ofNat_mul a b).symm
theorem n27 (c v : Nat) : 27 * nI c + nI (v + 96) - 97 + 1 = nI (27 * c + v) := by
  rw [← nI_add v 96]
  show 27 * nI c + (nI v + 96) - 97 + 1 = _
  rw [ring96, ← nI_add, ← nI_mul]
  rfl
theorem n10 (c v : Nat) : 10 * nI c + nI (v + 48) - 48 = nI (10 * c + v) := by
  rw [← nI_add v 48]
  show 10 * nI c + (nI v + 48) - 48 = _
  rw [ring48, ← nI_add, ← nI_mul]
  rfl
theorem nI_subN {a b : Nat} (h : b ≤ a) : nI a - nI b = nI (a - b) := by
  obtain ⟨c, rfl⟩ : ∃ c, a = b + c := ⟨a - b, by omega⟩
  rw [← nI_add, show b + c - b = c by omega]
  grind
theorem xfill {n0 : Nat} {M : Mem} : ∀ (j w n c : Nat), n + j = 6 → j < w → loopN (bX8_fillUp_4 n0) (fun _ _ _ => none) w (nI c) (nI n) M = some (nI (c * 27 ^ j), M) := by
  intro j
  induction j with
  | zero =>
    intro w n c h hw
    obtain ⟨w, rfl⟩ : ∃ v, w = v + 1 := ⟨w - 1, by omega⟩
    rw [lpS, bX8_fillUp_4, if_pos (show (6 : Int32) ≤ nI n from nI_le (a := 6) (by omega) (by omega))]
    simp
  | succ j ih =>
    intro w n c h hw
    obtain ⟨w, rfl⟩ : ∃ v, w = v + 1 := ⟨w - 1, by omega⟩
    rw [lpS, bX8_fillUp_4, if_neg (show ¬ (6 : Int32) ≤ nI n from nI_ge (b := 6) (by omega) (by decide))]
    rw [nI_1, show nI c * 27 = nI (c * 27) from nI_mul c 27]
    show loopN (bX8_fillUp_4 n0) (fun _ _ _ => none) w (nI (c * 27)) (nI (n + 1)) M = _
    rw [ih w (n + 1) (c * 27) (by omega) (by omega), Nat.pow_succ, Nat.mul_assoc, Nat.mul_comm 27]
def ownCs : List Nat := [291417210, 332864532, 173107395, 51382989, 266274540, 294949755, 283368645, 230359626, 115696674, 65554785, 24977727, 123189336, 273666600, 108693171, 230501781, 117687573, 191610176, 78983451, 132328809, 224799543, 21867813, 209249973, 20962395, 191594322, 187539624]
def ownC (i : Nat) : Nat := ownCs.getD i 0
theorem ownC_inj : ∀ i, i < 25 → ∀ j, j < 25 → ownC i = ownC j → i = j := by decide +kernel
theorem ownC_lt : ∀ i, i < 25 → ownC i < 2 ^ 31 := by decide +kernel
def kdOf (v k : Nat) : Prop := (k = 257 ∨ (260 ≤ k ∧ k ≤ 284)) ∧ ∀ i, i < 25 → (k = 260 + i ↔ v = ownC i)
theorem xkind {n0 v : Nat} {M : Mem} (hv : v < 2 ^ 31) (hO : ∀ i, i < 25 → gA M 4 i = nI (ownC i)) : ∀ (w j : Nat), j ≤ 25 → 25 < w + j → (∀ i, i < j → ¬ v = ownC i) → ∃ k, loopN (bX8_kindOf_2 n0) (fun _ _ _ => none) w (nI v) (nI j) M = some (nI k, M) ∧ kdOf v k := by
  intro w
  induction w with
  | zero => intro j _ h; omega
  | succ w ih =>
    intro j hj hw hne
    rw [lpS, bX8_kindOf_2]
    by_cases h : 25 ≤ j
    · rw [if_pos (show (25 : Int32) ≤ nI j from nI_le (a := 25) h (by omega))]
      refine ⟨257, rfl, Or.inl rfl, fun i hi => ⟨fun e => by omega, fun e => absurd e (hne i (by omega))⟩⟩
    · rw [if_neg (show ¬ (25 : Int32) ≤ nI j from nI_ge (b := 25) (by omega) (by decide)), if_neg (nI_in (by omega) (by decide)), nI_clamp (by omega), hO j (by omega)]
      by_cases e : ownC j = v
      · rw [if_pos (by rw [e])]
        refine ⟨260 + j, by rw [← nI_add]; rfl, Or.inr ⟨by omega, by omega⟩, fun i hi => ⟨fun q => ?_, fun q => ?_⟩⟩
        · rw [← e]; congr 1; omega
        · have := ownC_inj i hi j (by omega) (q.symm.trans e.symm)
          omega
      · rw [if_neg (fun q => e ((nI_eq (ownC_lt j (by omega)) hv).mp q)), nI_1]
        refine ih (j + 1) (by omega) (by omega) (fun i hi => ?_)
        by_cases q : i = j
        · rw [q]; exact fun g => e g.symm
        · exact hne i (by omega)
