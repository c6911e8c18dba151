section
/-! THE PURE PART, BASE: functions over memories that come to an end; reads behind writes; frames; numbers -/
def okP {ρ : Type} (o : Option ρ) (Q : ρ → Prop) : Prop := ∃ r, o = some r ∧ Q r
theorem okP_some {ρ : Type} {r : ρ} {Q : ρ → Prop} (h : Q r) : okP (some r) Q := ⟨r, rfl, h⟩
theorem okP_is {ρ : Type} {o : Option ρ} {r : ρ} {Q : ρ → Prop} (e : o = some r) (h : Q r) : okP o Q := ⟨r, e, h⟩
theorem okP_ite {ρ : Type} {c : Prop} [Decidable c] {a b : Option ρ} {Q : ρ → Prop} (h1 : c → okP a Q) (h2 : ¬ c → okP b Q) : okP (if c then a else b) Q := by
  by_cases h : c
  · rw [if_pos h]; exact h1 h
  · rw [if_neg h]; exact h2 h
theorem okP_t {ρ : Type} {c : Prop} [Decidable c] {a b : Option ρ} {Q : ρ → Prop} (h : c) (h1 : okP a Q) : okP (if c then a else b) Q := by rw [if_pos h]; exact h1
theorem okP_f {ρ : Type} {c : Prop} [Decidable c] {a b : Option ρ} {Q : ρ → Prop} (h : ¬ c) (h1 : okP b Q) : okP (if c then a else b) Q := by rw [if_neg h]; exact h1
theorem okP_bind {α β : Type} {o : Option α} {k : α → Option β} {P : α → Prop} {Q : β → Prop} (h : okP o P) (hk : ∀ z, P z → okP (k z) Q) : okP (o.bind k) Q := by
  obtain ⟨z, rfl, hz⟩ := h
  exact hk z hz
theorem okP_be {α β : Type} {o : Option α} {k : α → Option β} {z : α} {Q : β → Prop} (e : o = some z) (h : okP (k z) Q) : okP (o.bind k) Q := by rw [e]; exact h
theorem okP_bnd {α ρ : Type} {v : α} {k : α → Option ρ} {Q : ρ → Prop} (h : okP (k v) Q) : okP (bnd v k) Q := h
theorem okP_mono {ρ : Type} {o : Option ρ} {P Q : ρ → Prop} (h : okP o P) (hq : ∀ r, P r → Q r) : okP o Q := by
  obtain ⟨r, e, h⟩ := h
  exact ⟨r, e, hq r h⟩
/-- an answer 0 or 1 -/
def bI (p : Prop) [Decidable p] : Int32 := if p then 1 else 0
theorem i10 : ¬ (1 : Int32) = 0 := by decide
theorem bI_t {p : Prop} [Decidable p] (h : p) : bI p = 1 := if_pos h
theorem bI_f {p : Prop} [Decidable p] (h : ¬ p) : bI p = 0 := if_neg h
theorem bI_0 {p : Prop} [Decidable p] : bI p = 0 ↔ ¬ p := by
  unfold bI
  by_cases h : p
  · rw [if_pos h]; exact ⟨fun e => absurd e i10, fun e => absurd h e⟩
  · rw [if_neg h]; exact ⟨fun _ => h, fun _ => rfl⟩
theorem bI_01 {p : Prop} [Decidable p] : bI p = 0 ∨ bI p = 1 := by
  unfold bI
  by_cases h : p
  · rw [if_pos h]; exact Or.inr rfl
  · rw [if_neg h]; exact Or.inl rfl
-- reads behind writes
theorem gI_sA {M : Mem} {a i k : Nat} {v : Int32} : gI (sA M a i v) k = gI M k := rfl
theorem gI_sR {M : Mem} {j k v : Nat} : gI (sR M j v) k = gI M k := rfl
theorem gI_sL {M : Mem} {j k : Nat} {v : Int64} : gI (sL M j v) k = gI M k := rfl
theorem gI_sB {M : Mem} {a i k : Nat} {v : Int64} : gI (sB M a i v) k = gI M k := rfl
theorem gI_sF {M : Mem} {a k : Nat} {f : Nat → Int32} : gI (sF M a f) k = gI M k := rfl
theorem gA_sI {M : Mem} {k a : Nat} {v : Int32} : gA (sI M k v) a = gA M a := rfl
theorem gA_sR {M : Mem} {k a v : Nat} : gA (sR M k v) a = gA M a := rfl
theorem gA_sL {M : Mem} {k a : Nat} {v : Int64} : gA (sL M k v) a = gA M a := rfl
theorem gA_sB {M : Mem} {a i b : Nat} {v : Int64} : gA (sB M b i v) a = gA M a := rfl
theorem gR_sI {M : Mem} {k j : Nat} {v : Int32} : gR (sI M k v) j = gR M j := rfl
theorem gR_sA {M : Mem} {a i j : Nat} {v : Int32} : gR (sA M a i v) j = gR M j := rfl
theorem gR_sL {M : Mem} {k j : Nat} {v : Int64} : gR (sL M k v) j = gR M j := rfl
theorem gR_sB {M : Mem} {a i j : Nat} {v : Int64} : gR (sB M a i v) j = gR M j := rfl
theorem gR_sF {M : Mem} {a j : Nat} {f : Nat → Int32} : gR (sF M a f) j = gR M j := rfl
theorem gL_sI {M : Mem} {k j : Nat} {v : Int32} : gL (sI M k v) j = gL M j := rfl
theorem gL_sA {M : Mem} {a i j : Nat} {v : Int32} : gL (sA M a i v) j = gL M j := rfl
theorem gL_sB {M : Mem} {a i j : Nat} {v : Int64} : gL (sB M a i v) j = gL M j := rfl
theorem gB_sI {M : Mem} {k a : Nat} {v : Int32} : gB (sI M k v) a = gB M a := rfl
theorem gB_sA {M : Mem} {b i a : Nat} {v : Int32} : gB (sA M b i v) a = gB M a := rfl
theorem gB_sL {M : Mem} {k a : Nat} {v : Int64} : gB (sL M k v) a = gB M a := rfl
theorem gI_at {M : Mem} {k : Nat} {v : Int32} : gI (sI M k v) k = v := by rw [gI_sI, if_pos rfl]
theorem gI_ne {M : Mem} {k j : Nat} {v : Int32} (h : j ≠ k) : gI (sI M k v) j = gI M j := by rw [gI_sI, if_neg h]
theorem sI_same {M : Mem} {k : Nat} {v : Int32} (h : gI M k = v) : sI M k v = M := by
  subst h
  obtain ⟨a, b⟩ := M
  show (upd a k (a k), b) = (a, b)
  congr 1
  funext j
  unfold upd
  by_cases e : j = k
  · rw [if_pos e, e]
  · rw [if_neg e]
theorem sI_sI {M : Mem} {k : Nat} {v u : Int32} : sI (sI M k u) k v = sI M k v := by
  obtain ⟨a, b⟩ := M
  show (upd (upd a k u) k v, b) = (upd a k v, b)
  congr 1
  funext j
  unfold upd
  by_cases e : j = k
  · rw [if_pos e, if_pos e]
  · rw [if_neg e, if_neg e, if_neg e]
/-- what may be other than before: ints by number, arrays by place, longs by number, arrays of longs by place -/
def Frm (I A L B : Nat → Prop) (M M' : Mem) : Prop := (∀ k, ¬ I k → gI M' k = gI M k) ∧ (∀ a, ¬ A a → gA M' a = gA M a) ∧ (∀ k, gR M' k = gR M k) ∧ (∀ k, ¬ L k → gL M' k = gL M k) ∧ ∀ a, ¬ B a → gB M' a = gB M a
def noN : Nat → Prop := fun _ => False
theorem Frm.r {I A L B : Nat → Prop} {M : Mem} : Frm I A L B M M := ⟨fun _ _ => rfl, fun _ _ => rfl, fun _ => rfl, fun _ _ => rfl, fun _ _ => rfl⟩
theorem Frm.tr {I A L B : Nat → Prop} {M M' M2 : Mem} (h : Frm I A L B M M') (h2 : Frm I A L B M' M2) : Frm I A L B M M2 :=
  ⟨fun k hk => (h2.1 k hk).trans (h.1 k hk), fun k hk => (h2.2.1 k hk).trans (h.2.1 k hk), fun k => (h2.2.2.1 k).trans (h.2.2.1 k), fun k hk => (h2.2.2.2.1 k hk).trans (h.2.2.2.1 k hk), fun k hk => (h2.2.2.2.2 k hk).trans (h.2.2.2.2 k hk)⟩
theorem Frm.wk {I A L B I' A' L' B' : Nat → Prop} {M M' : Mem} (h : Frm I A L B M M') (h1 : ∀ k, I k → I' k) (h2 : ∀ k, A k → A' k) (h3 : ∀ k, L k → L' k) (h4 : ∀ k, B k → B' k) : Frm I' A' L' B' M M' :=
  ⟨fun k hk => h.1 k (fun q => hk (h1 k q)), fun k hk => h.2.1 k (fun q => hk (h2 k q)), h.2.2.1, fun k hk => h.2.2.2.1 k (fun q => hk (h3 k q)), fun k hk => h.2.2.2.2 k (fun q => hk (h4 k q))⟩
theorem Frm.sI {I A L B : Nat → Prop} {M M' : Mem} {k : Nat} {v : Int32} (h : Frm I A L B M M') (hk : I k) : Frm I A L B M (sI M' k v) :=
  ⟨fun j hj => by rw [gI_sI, if_neg (show ¬ j = k from fun e => hj (by rw [e]; exact hk))]; exact h.1 j hj, h.2.1, h.2.2.1, h.2.2.2.1, h.2.2.2.2⟩
theorem Frm.sA {I A L B : Nat → Prop} {M M' : Mem} {a i : Nat} {v : Int32} (h : Frm I A L B M M') (hk : A a) : Frm I A L B M (sA M' a i v) :=
  ⟨h.1, fun j hj => by rw [gA_sA_ne (show j ≠ a from fun e => hj (by rw [e]; exact hk))]; exact h.2.1 j hj, h.2.2.1, h.2.2.2.1, h.2.2.2.2⟩
theorem Frm.sL {I A L B : Nat → Prop} {M M' : Mem} {k : Nat} {v : Int64} (h : Frm I A L B M M') (hk : L k) : Frm I A L B M (sL M' k v) :=
  ⟨h.1, h.2.1, h.2.2.1, fun j hj => by rw [gL_sL, if_neg (show ¬ j = k from fun e => hj (by rw [e]; exact hk))]; exact h.2.2.2.1 j hj, h.2.2.2.2⟩
theorem Frm.sB {I A L B : Nat → Prop} {M M' : Mem} {a i : Nat} {v : Int64} (h : Frm I A L B M M') (hk : B a) : Frm I A L B M (sB M' a i v) :=
  ⟨h.1, h.2.1, h.2.2.1, h.2.2.2.1, fun j hj => by rw [gB_sB_ne (show j ≠ a from fun e => hj (by rw [e]; exact hk))]; exact h.2.2.2.2 j hj⟩
-- numbers
theorem i_lt (x y : Int32) : x < y ↔ x.toInt < y.toInt := Int32.lt_iff_toInt_lt
theorem i_le (x y : Int32) : x ≤ y ↔ x.toInt ≤ y.toInt := Int32.le_iff_toInt_le
theorem i_eq (x y : Int32) : x = y ↔ x.toInt = y.toInt := Int32.toInt_inj.symm
theorem okP_in {ρ : Type} {o : Option ρ} {Q : ρ → Prop} {k n : Nat} (h : k < n) (hn : n < 2 ^ 31) (hk : okP o Q) : okP (if oob (nI k) n then none else o) Q := okP_f (nI_in h hn) hk
theorem lpS {α : Type} (F : α → α) (z : α) (n : Nat) : loopN F z (n + 1) = F (loopN F z n) := rfl
end
section
/-! THE NEXT WORD, NUMBER OR SIGN, as the class reads it -/
abbrev blk (x : Int32) : Prop := x = 32 ∨ x = 10
abbrev isLt (x : Int32) : Prop := 97 ≤ x ∧ x ≤ 122
abbrev isDg (x : Int32) : Prop := 48 ≤ x ∧ x ≤ 57
def SkB (t : Nat → Int32) (L p s : Nat) : Prop := p ≤ s ∧ s ≤ L ∧ (∀ i, p ≤ i → i < s → blk (t i)) ∧ (s < L → ¬ blk (t s))
def RnB (P : Int32 → Prop) (t : Nat → Int32) (L k e : Nat) : Prop := k ≤ e ∧ e ≤ L ∧ (∀ i, k ≤ i → i < e → P (t i)) ∧ (e < L → ¬ P (t e))
theorem RnB.uniq {P : Int32 → Prop} {t : Nat → Int32} {L p s s' : Nat} (h : RnB P t L p s) (h' : RnB P t L p s') : s = s' := by
  rcases Nat.lt_trichotomy s s' with g | g | g
  · exact absurd (h'.2.2.1 s h.1 g) (h.2.2.2 (Nat.lt_of_lt_of_le g h'.2.1))
  · exact g
  · exact absurd (h.2.2.1 s' h'.1 g) (h'.2.2.2 (Nat.lt_of_lt_of_le g h.2.1))
theorem SkB.uniq {t : Nat → Int32} {L p s s' : Nat} (h : SkB t L p s) (h' : SkB t L p s') : s = s' := RnB.uniq (P := blk) h h'
def vLt (t : Nat → Int32) (i : Nat) : Nat := (t i).toNatClampNeg - 96
def vDg (t : Nat → Int32) (i : Nat) : Nat := (t i).toNatClampNeg - 48
def e27 (f : Nat → Nat) : Nat → Nat
  | 0 => 0
  | n + 1 => 27 * e27 f n + f n
def e10 (f : Nat → Nat) : Nat → Nat
  | 0 => 0
  | n + 1 => 10 * e10 f n + f n
theorem in_nI {a b : Nat} {x : Int32} (hb : b < 2 ^ 31) (h : nI a ≤ x ∧ x ≤ nI b) (hab : a ≤ b) : ∃ j, a ≤ j ∧ j ≤ b ∧ x = nI j := by
  have h0 : ¬ x < 0 := by
    have h1 := h.1
    rw [i_le, nI_toInt (by omega)] at h1
    rw [i_lt]
    have : (0 : Int32).toInt = 0 := by decide
    omega
  obtain ⟨j, hj, rfl⟩ := nI_of2 (M := nI b) (n := b) (nI_toInt hb) h0 h.2
  exact ⟨j, (nI_leI (by omega) (by omega)).mp h.1, hj, rfl⟩
theorem isLt_v {t : Nat → Int32} {i : Nat} (h : isLt (t i)) : 1 ≤ vLt t i ∧ vLt t i ≤ 26 ∧ t i = nI (vLt t i + 96) := by
  obtain ⟨j, h1, h2, e⟩ := in_nI (a := 97) (b := 122) (by decide) h (by decide)
  unfold vLt
  rw [e, nI_clamp (by omega)]
  exact ⟨by omega, by omega, by congr 1; omega⟩
theorem isDg_v {t : Nat → Int32} {i : Nat} (h : isDg (t i)) : vDg t i ≤ 9 ∧ t i = nI (vDg t i + 48) := by
  obtain ⟨j, h1, h2, e⟩ := in_nI (a := 48) (b := 57) (by decide) h (by decide)
  unfold vDg
  rw [e, nI_clamp (by omega)]
  exact ⟨by omega, by congr 1; omega⟩
theorem lt_dg {x : Int32} (h : isLt x) : ¬ isDg x := fun g => by
  have := h.1
  have := g.2
  rw [i_le] at *
  have a : (97 : Int32).toInt = 97 := by decide
  have b : (57 : Int32).toInt = 57 := by decide
  omega
theorem lt_blk {x : Int32} (h : isLt x) : ¬ blk x := fun g => by
  rcases g with rfl | rfl <;> exact absurd h (by decide)
theorem dg_blk {x : Int32} (h : isDg x) : ¬ blk x := fun g => by
  rcases g with rfl | rfl <;> exact absurd h (by decide)
theorem rng_bI {a b x : Int32} {M : Mem} : (if x < a then some ((0 : Int32), M) else if b < x then some ((0 : Int32), M) else some ((1 : Int32), M)) = some (bI (a ≤ x ∧ x ≤ b), M) := by
  by_cases h1 : x < a
  · rw [if_pos h1, bI_f (fun h => absurd h.1 (Int32.not_le.mpr h1))]
  · by_cases h2 : b < x
    · rw [if_neg h1, if_pos h2, bI_f (fun h => absurd h.2 (Int32.not_le.mpr h2))]
    · rw [if_neg h1, if_neg h2, bI_t ⟨Int32.not_lt.mp h1, Int32.not_lt.mp h2⟩]
theorem xlet {n0 : Nat} {x : Int32} {M : Mem} : fX8_isLetter n0 x M = some (bI (isLt x), M) := by unfold fX8_isLetter; exact rng_bI
theorem xdig {n0 : Nat} {x : Int32} {M : Mem} : fX8_isDigit n0 x M = some (bI (isDg x), M) := by unfold fX8_isDigit; exact rng_bI
theorem xat {n0 L i : Nat} {M : Mem} (hL : gI M 641 = nI L) (h16 : L ≤ 1600) (hi : i < L) : fX7_at n0 (nI i) M = some (gA M 6 i, M) := by
  unfold fX7_at
  rw [if_neg (nI_pos (by omega)), hL, if_neg (nI_ge hi (by omega)), if_neg (nI_in (by omega) (by decide)), nI_clamp (by omega)]
theorem xat_end {n0 L i : Nat} {M : Mem} (hL : gI M 641 = nI L) (hi : L ≤ i) (h : i < 2 ^ 31) : fX7_at n0 (nI i) M = some (-1, M) := by
  unfold fX7_at
  rw [if_neg (nI_pos h), hL, if_pos (nI_le hi h)]
theorem xskip {n0 L : Nat} (h16 : L ≤ 1600) : ∀ (w p : Nat) (M : Mem), gI M 641 = nI L → p ≤ L → gI M 390 = nI p → L < w + p → okP (loopN (bX8_skipBlanks_5 n0) (fun _ _ => none) w (nI p) M) (fun M' => ∃ s, SkB (gA M 6) L p s ∧ M' = sI M 390 (nI s)) := by
  intro w
  induction w with
  | zero => intro p M _ _ _ h; omega
  | succ w ih =>
    intro p M hL hp h390 hw
    rw [lpS, bX8_skipBlanks_5]
    by_cases h : L ≤ p
    · refine okP_t (by rw [hL]; exact nI_le h (by omega)) (okP_some ⟨p, ⟨Nat.le_refl p, hp, fun i h1 h2 => by omega, fun h1 => by omega⟩, (sI_same h390).symm⟩)
    · have step : ∀ (hb : blk (gA M 6 p)), okP (fX8_skipBlanks_42 n0 (loopN (bX8_skipBlanks_5 n0) (fun _ _ => none) w) (nI p) M) (fun M' => ∃ s, SkB (gA M 6) L p s ∧ M' = sI M 390 (nI s)) := by
        intro hb
        unfold fX8_skipBlanks_42
        rw [nI_1]
        refine okP_bnd (okP_mono (ih (p + 1) (sI M 390 (nI (p + 1))) (by rw [gI_ne (by decide)]; exact hL) (by omega) gI_at (by omega)) ?_)
        intro M' ⟨s, hs, e⟩
        refine ⟨s, ⟨by have := hs.1; omega, hs.2.1, fun i h1 h2 => ?_, hs.2.2.2⟩, by rw [e, sI_sI]⟩
        by_cases hi : i = p
        · rw [hi]; exact hb
        · exact hs.2.2.1 i (by omega) h2
      refine okP_f (by rw [hL]; exact nI_ge (by omega) (by omega)) (okP_be (xat hL h16 (by omega)) ?_)
      refine okP_ite (fun hb => step (Or.inl hb)) (fun hb => okP_be (xat hL h16 (by omega)) ?_)
      refine okP_ite (fun hc => step (Or.inr hc)) (fun hc => okP_some ⟨p, ⟨Nat.le_refl p, hp, fun i h1 h2 => by omega, fun _ g => ?_⟩, (sI_same h390).symm⟩)
      rcases g with g | g
      · exact hb g
      · exact hc g
theorem ring96 (x y : Int32) : 27 * x + (y + 96) - 97 + 1 = 27 * x + y := by grind
theorem ring48 (x y : Int32) : 10 * x + (y + 48) - 48 = 10 * x + y := by grind
theorem nI_mul (a b : Nat) : nI a * nI b = nI (a * b) := (Int32.ofNat_mul a b).symm
theorem n27 (c v : Nat) : 27 * nI c + nI (v + 96) - 97 + 1 = nI (27 * c + v) := by
  rw [← nI_add v 96]
  show 27 * nI c + (nI v + 96) - 97 + 1 = _
  rw [ring96, ← nI_add, ← nI_mul]
  rfl
theorem n10 (c v : Nat) : 10 * nI c + nI (v + 48) - 48 = nI (10 * c + v) := by
  rw [← nI_add v 48]
  show 10 * nI c + (nI v + 48) - 48 = _
  rw [ring48, ← nI_add, ← nI_mul]
  rfl
theorem nI_subN {a b : Nat} (h : b ≤ a) : nI a - nI b = nI (a - b) := by
  obtain ⟨c, rfl⟩ : ∃ c, a = b + c := ⟨a - b, by omega⟩
  rw [← nI_add, show b + c - b = c by omega]
  grind
theorem xfill {n0 : Nat} {M : Mem} : ∀ (j w n c : Nat), n + j = 6 → j < w → loopN (bX8_fillUp_4 n0) (fun _ _ _ => none) w (nI c) (nI n) M = some (nI (c * 27 ^ j), M) := by
  intro j
  induction j with
  | zero =>
    intro w n c h hw
    obtain ⟨w, rfl⟩ : ∃ v, w = v + 1 := ⟨w - 1, by omega⟩
    rw [lpS, bX8_fillUp_4, if_pos (show (6 : Int32) ≤ nI n from nI_le (a := 6) (by omega) (by omega))]
    simp
  | succ j ih =>
    intro w n c h hw
    obtain ⟨w, rfl⟩ : ∃ v, w = v + 1 := ⟨w - 1, by omega⟩
    rw [lpS, bX8_fillUp_4, if_neg (show ¬ (6 : Int32) ≤ nI n from nI_ge (b := 6) (by omega) (by decide))]
    rw [nI_1, show nI c * 27 = nI (c * 27) from nI_mul c 27]
    show loopN (bX8_fillUp_4 n0) (fun _ _ _ => none) w (nI (c * 27)) (nI (n + 1)) M = _
    rw [ih w (n + 1) (c * 27) (by omega) (by omega), Nat.pow_succ, Nat.mul_assoc, Nat.mul_comm 27]
def ownCs : List Nat := [291417210, 332864532, 173107395, 51382989, 266274540, 294949755, 283368645, 230359626, 115696674, 65554785, 24977727, 123189336, 273666600, 108693171, 230501781, 117687573, 191610176, 78983451, 132328809, 224799543, 21867813, 209249973, 20962395, 191594322, 187539624]
def ownC (i : Nat) : Nat := ownCs.getD i 0
theorem ownC_inj : ∀ i, i < 25 → ∀ j, j < 25 → ownC i = ownC j → i = j := by decide +kernel
theorem ownC_lt : ∀ i, i < 25 → ownC i < 2 ^ 31 := by decide +kernel
def kdOf (v k : Nat) : Prop := (k = 257 ∨ (260 ≤ k ∧ k ≤ 284)) ∧ ∀ i, i < 25 → (k = 260 + i ↔ v = ownC i)
theorem xkind {n0 v : Nat} {M : Mem} (hv : v < 2 ^ 31) (hO : ∀ i, i < 25 → gA M 4 i = nI (ownC i)) : ∀ (w j : Nat), j ≤ 25 → 25 < w + j → (∀ i, i < j → ¬ v = ownC i) → ∃ k, loopN (bX8_kindOf_2 n0) (fun _ _ _ => none) w (nI v) (nI j) M = some (nI k, M) ∧ kdOf v k := by
  intro w
  induction w with
  | zero => intro j _ h; omega
  | succ w ih =>
    intro j hj hw hne
    rw [lpS, bX8_kindOf_2]
    by_cases h : 25 ≤ j
    · rw [if_pos (show (25 : Int32) ≤ nI j from nI_le (a := 25) h (by omega))]
      refine ⟨257, rfl, Or.inl rfl, fun i hi => ⟨fun e => by omega, fun e => absurd e (hne i (by omega))⟩⟩
    · rw [if_neg (show ¬ (25 : Int32) ≤ nI j from nI_ge (b := 25) (by omega) (by decide)), if_neg (nI_in (by omega) (by decide)), nI_clamp (by omega), hO j (by omega)]
      by_cases e : ownC j = v
      · rw [if_pos (by rw [e])]
        refine ⟨260 + j, by rw [← nI_add]; rfl, Or.inr ⟨by omega, by omega⟩, fun i hi => ⟨fun q => ?_, fun q => ?_⟩⟩
        · rw [← e]; congr 1; omega
        · have := ownC_inj i hi j (by omega) (q.symm.trans e.symm)
          omega
      · rw [if_neg (fun q => e ((nI_eq (ownC_lt j (by omega)) hv).mp q)), nI_1]
        refine ih (j + 1) (by omega) (by omega) (fun i hi => ?_)
        by_cases q : i = j
        · rw [q]; exact fun g => e g.symm
        · exact hne i (by omega)
end
section
/-! THE NEXT WORD, NUMBER OR SIGN, as the class reads it: words, numbers, advance -/
def fL (t : Nat → Int32) (s i : Nat) : Nat := vLt t (s + i)
def fD (t : Nat → Int32) (s i : Nat) : Nat := vDg t (s + i)
theorem xword {n0 L s : Nat} {Q : Mem → Prop} (h16 : L ≤ 1600) : ∀ (w k : Nat) (M : Mem), gI M 641 = nI L → gI M 387 = nI s → gI M 390 = nI k → s ≤ k → k ≤ L → L < w + k →
    (∀ e, RnB isLt (gA M 6) L k e → okP (fX8_readWord_75 n0 (nI (e27 (fL (gA M 6) s) (min (e - s) 6))) (sI M 390 (nI e))) Q) →
    okP (loopN (bX8_readWord_7 n0) (fun _ _ _ => none) w (nI (e27 (fL (gA M 6) s) (min (k - s) 6))) (nI k) M) Q := by
  intro w
  induction w with
  | zero => intro k M _ _ _ _ _ h; omega
  | succ w ih =>
    intro k M hL hs h390 hsk hkL hw hQ
    rw [lpS, bX8_readWord_7]
    have stop : RnB isLt (gA M 6) L k k → okP (fX8_readWord_75 n0 (nI (e27 (fL (gA M 6) s) (min (k - s) 6))) M) Q := by
      intro hr
      have := hQ k hr
      rwa [sI_same h390] at this
    by_cases h : L ≤ k
    · exact okP_t (by rw [hL]; exact nI_le h (by omega)) (stop ⟨Nat.le_refl k, hkL, fun i h1 h2 => by omega, fun h1 => by omega⟩)
    · refine okP_f (by rw [hL]; exact nI_ge (by omega) (by omega)) (okP_be (xat hL h16 (by omega)) (okP_be xlet ?_))
      by_cases hl : isLt (gA M 6 k)
      · refine okP_f (fun q => bI_0.mp q hl) ?_
        have next : ∀ c : Nat, c = e27 (fL (gA M 6) s) (min (k + 1 - s) 6) → okP (fX8_readWord_62 n0 (loopN (bX8_readWord_7 n0) (fun _ _ _ => none) w) (nI c) (nI k) M) Q := by
          intro c hc
          unfold fX8_readWord_62
          rw [nI_1, hc]
          refine okP_bnd (ih (k + 1) (sI M 390 (nI (k + 1))) (by rw [gI_ne (by decide)]; exact hL) (by rw [gI_ne (by decide)]; exact hs) gI_at (by omega) (by omega) (by omega) (fun e he => ?_))
          rw [sI_sI]
          refine hQ e ⟨by have := he.1; omega, he.2.1, fun i h1 h2 => ?_, he.2.2.2⟩
          by_cases hi : i = k
          · rw [hi]; exact hl
          · exact he.2.2.1 i (by omega) h2
        by_cases h6 : 6 ≤ k - s
        · refine okP_t (show (6 : Int32) ≤ nI k - gI M 387 by rw [hs, nI_subN hsk]; exact nI_le (a := 6) h6 (by omega)) (next _ ?_)
          rw [show min (k - s) 6 = 6 by omega, show min (k + 1 - s) 6 = 6 by omega]
        · refine okP_f (show ¬ (6 : Int32) ≤ nI k - gI M 387 by rw [hs, nI_subN hsk]; exact nI_ge (b := 6) (by omega) (by decide)) (okP_be (xat hL h16 (by omega)) (okP_bnd ?_))
          show okP (fX8_readWord_62 n0 _ (27 * nI (e27 (fL (gA M 6) s) (min (k - s) 6)) + gA M 6 k - 97 + 1) (nI k) M) Q
          rw [(isLt_v hl).2.2, n27]
          refine next _ ?_
          rw [show min (k + 1 - s) 6 = k - s + 1 by omega, show min (k - s) 6 = k - s by omega, e27]
          unfold fL
          rw [show s + (k - s) = k by omega]
      · refine okP_t (bI_f hl) (stop ⟨Nat.le_refl k, hkL, fun i h1 h2 => by omega, fun _ => hl⟩)
theorem e27_lt {f : Nat → Nat} : ∀ {n : Nat}, (∀ i, i < n → f i ≤ 26) → e27 f n < 27 ^ n
  | 0, _ => Nat.lt_of_sub_eq_succ rfl
  | n + 1, h => by
    have h1 := e27_lt (f := f) (n := n) (fun i hi => h i (by omega))
    have h2 := h n (by omega)
    rw [e27, Nat.pow_succ]
    omega
def V27 (t : Nat → Int32) (s e : Nat) : Nat := e27 (fL t s) (e - s) * 27 ^ (6 - (e - s))
theorem V27_lt {t : Nat → Int32} {L s e : Nat} (h : RnB isLt t L s e) (h6 : e - s ≤ 6) : V27 t s e < 2 ^ 31 := by
  have h1 : e27 (fL t s) (e - s) < 27 ^ (e - s) := e27_lt (fun i hi => (isLt_v (h.2.2.1 (s + i) (by omega) (by omega))).2.1)
  have h2 : 27 ^ (e - s) * 27 ^ (6 - (e - s)) = 27 ^ 6 := by rw [← Nat.pow_add]; congr 1; omega
  have h3 : 0 < 27 ^ (6 - (e - s)) := Nat.pow_pos (by decide)
  have h4 := (Nat.mul_lt_mul_right h3).mpr h1
  rw [h2] at h4
  unfold V27
  exact Nat.lt_trans h4 (by decide)
theorem xreadWord {n0 L s : Nat} {M : Mem} (hn : 1601 ≤ n0) (h16 : L ≤ 1600) (hL : gI M 641 = nI L) (hs : gI M 387 = nI s) (h390 : gI M 390 = nI s) (hsL : s < L) (hl : isLt (gA M 6 s)) (hO : ∀ i, i < 25 → gA M 4 i = nI (ownC i)) :
    okP (fX8_readWord n0 M) (fun M' => ∃ e, RnB isLt (gA M 6) L s e ∧ s < e ∧ ((6 < e - s ∧ M' = sI (sI (sI M 390 (nI e)) 386 258) 388 (nI (s + 6))) ∨ (e - s ≤ 6 ∧ ∃ k, kdOf (V27 (gA M 6) s e) k ∧ M' = sI (sI (sI M 390 (nI e)) 389 (nI (V27 (gA M 6) s e))) 386 (nI k)))) := by
  unfold fX8_readWord fX8_readWord_7
  refine okP_bnd ?_
  rw [hs]
  have h0 : (0 : Int32) = nI (e27 (fL (gA M 6) s) (min (s - s) 6)) := by rw [Nat.sub_self]; rfl
  rw [h0]
  refine xword h16 n0 s M hL hs h390 (Nat.le_refl s) (by omega) (by omega) (fun e he => ?_)
  have hse : s < e := by
    rcases Nat.lt_or_ge s e with h | h
    · exact h
    · have : s = e := Nat.le_antisymm he.1 h
      subst this
      exact absurd hl (he.2.2.2 hsL)
  unfold fX8_readWord_75
  have a1 : gI (sI M 390 (nI e)) 390 - gI (sI M 390 (nI e)) 387 = nI (e - s) := by rw [gI_at, gI_ne (by decide), hs, nI_subN (by omega)]
  rw [a1]
  by_cases h6 : e - s ≤ 6
  · refine okP_t (show nI (e - s) ≤ (6 : Int32) from nI_le (b := 6) h6 (by decide)) ?_
    rw [show min (e - s) 6 = e - s by omega]
    have hf : fX8_fillUp n0 (nI (e27 (fL (gA M 6) s) (e - s))) (nI (e - s)) (sI M 390 (nI e)) = some (nI (V27 (gA M 6) s e), sI M 390 (nI e)) := by
      unfold fX8_fillUp fX8_fillUp_4 V27
      exact xfill (6 - (e - s)) n0 (e - s) _ (by omega) (by omega)
    refine okP_be hf (okP_bnd ?_)
    have hV := V27_lt he h6
    obtain ⟨k, hk, hkd⟩ := xkind (n0 := n0) (M := sI (sI M 390 (nI e)) 389 (nI (V27 (gA M 6) s e))) hV hO n0 0 (by omega) (by omega) (fun i hi => by omega)
    refine okP_be (z := (nI k, sI (sI M 390 (nI e)) 389 (nI (V27 (gA M 6) s e)))) ?_ (okP_some ⟨e, he, hse, Or.inr ⟨h6, k, hkd, rfl⟩⟩)
    show fX8_kindOf n0 (gI (sI (sI M 390 (nI e)) 389 (nI (V27 (gA M 6) s e))) 389) (sI (sI M 390 (nI e)) 389 (nI (V27 (gA M 6) s e))) = _
    rw [gI_at]
    exact hk
  · refine okP_f (show ¬ nI (e - s) ≤ (6 : Int32) from nI_ge (a := 6) (by omega) (by have := he.2.1; omega)) (okP_bnd (okP_some ⟨e, he, hse, Or.inl ⟨by omega, ?_⟩⟩))
    rw [gI_ne (show (387 : Nat) ≠ 386 by decide), gI_ne (show (387 : Nat) ≠ 390 by decide), hs]
    rw [show (6 : Int32) = nI 6 from rfl, nI_add]
theorem xnum {n0 L s : Nat} {Q : Mem → Prop} (h16 : L ≤ 1600) : ∀ (w k : Nat) (M : Mem), gI M 641 = nI L → gI M 387 = nI s → gI M 390 = nI k → s ≤ k → k ≤ L → L < w + k →
    (∀ e, RnB isDg (gA M 6) L k e → okP (fX8_readNumber_72 n0 (nI (e10 (fD (gA M 6) s) (min (e - s) 4))) (sI M 390 (nI e))) Q) →
    okP (loopN (bX8_readNumber_7 n0) (fun _ _ _ => none) w (nI (e10 (fD (gA M 6) s) (min (k - s) 4))) (nI k) M) Q := by
  intro w
  induction w with
  | zero => intro k M _ _ _ _ _ h; omega
  | succ w ih =>
    intro k M hL hs h390 hsk hkL hw hQ
    rw [lpS, bX8_readNumber_7]
    have stop : RnB isDg (gA M 6) L k k → okP (fX8_readNumber_72 n0 (nI (e10 (fD (gA M 6) s) (min (k - s) 4))) M) Q := by
      intro hr
      have := hQ k hr
      rwa [sI_same h390] at this
    by_cases h : L ≤ k
    · exact okP_t (by rw [hL]; exact nI_le h (by omega)) (stop ⟨Nat.le_refl k, hkL, fun i h1 h2 => by omega, fun h1 => by omega⟩)
    · refine okP_f (by rw [hL]; exact nI_ge (by omega) (by omega)) (okP_be (xat hL h16 (by omega)) (okP_be xdig ?_))
      by_cases hl : isDg (gA M 6 k)
      · refine okP_f (fun q => bI_0.mp q hl) ?_
        have next : ∀ c : Nat, c = e10 (fD (gA M 6) s) (min (k + 1 - s) 4) → okP (fX8_readNumber_59 n0 (loopN (bX8_readNumber_7 n0) (fun _ _ _ => none) w) (nI c) (nI k) M) Q := by
          intro c hc
          unfold fX8_readNumber_59
          rw [nI_1, hc]
          refine okP_bnd (ih (k + 1) (sI M 390 (nI (k + 1))) (by rw [gI_ne (by decide)]; exact hL) (by rw [gI_ne (by decide)]; exact hs) gI_at (by omega) (by omega) (by omega) (fun e he => ?_))
          rw [sI_sI]
          refine hQ e ⟨by have := he.1; omega, he.2.1, fun i h1 h2 => ?_, he.2.2.2⟩
          by_cases hi : i = k
          · rw [hi]; exact hl
          · exact he.2.2.1 i (by omega) h2
        by_cases h6 : 4 ≤ k - s
        · refine okP_t (show (4 : Int32) ≤ nI k - gI M 387 by rw [hs, nI_subN hsk]; exact nI_le (a := 4) h6 (by omega)) (next _ ?_)
          rw [show min (k - s) 4 = 4 by omega, show min (k + 1 - s) 4 = 4 by omega]
        · refine okP_f (show ¬ (4 : Int32) ≤ nI k - gI M 387 by rw [hs, nI_subN hsk]; exact nI_ge (b := 4) (by omega) (by decide)) (okP_be (xat hL h16 (by omega)) (okP_bnd ?_))
          show okP (fX8_readNumber_59 n0 _ (10 * nI (e10 (fD (gA M 6) s) (min (k - s) 4)) + gA M 6 k - 48) (nI k) M) Q
          rw [(isDg_v hl).2, n10]
          refine next _ ?_
          rw [show min (k + 1 - s) 4 = k - s + 1 by omega, show min (k - s) 4 = k - s by omega, e10]
          unfold fD
          rw [show s + (k - s) = k by omega]
      · refine okP_t (bI_f hl) (stop ⟨Nat.le_refl k, hkL, fun i h1 h2 => by omega, fun _ => hl⟩)
def V10 (t : Nat → Int32) (s e : Nat) : Nat := e10 (fD t s) (min (e - s) 4)
theorem xreadNum {n0 L s : Nat} {M : Mem} (hn : 1601 ≤ n0) (h16 : L ≤ 1600) (hL : gI M 641 = nI L) (hs : gI M 387 = nI s) (h390 : gI M 390 = nI s) (hsL : s < L) (hl : isDg (gA M 6 s)) :
    okP (fX8_readNumber n0 M) (fun M' => ∃ e, RnB isDg (gA M 6) L s e ∧ s < e ∧ ((4 < e - s ∧ M' = sI (sI (sI (sI (sI M 390 (nI e)) 389 (nI (V10 (gA M 6) s e))) 386 256) 386 258) 388 (nI (s + 4))) ∨ (e - s ≤ 4 ∧ M' = sI (sI (sI M 390 (nI e)) 389 (nI (V10 (gA M 6) s e))) 386 256))) := by
  unfold fX8_readNumber fX8_readNumber_7
  refine okP_bnd ?_
  rw [hs]
  have h0 : (0 : Int32) = nI (e10 (fD (gA M 6) s) (min (s - s) 4)) := by rw [Nat.sub_self]; rfl
  rw [h0]
  refine xnum h16 n0 s M hL hs h390 (Nat.le_refl s) (by omega) (by omega) (fun e he => ?_)
  have hse : s < e := by
    rcases Nat.lt_or_ge s e with h | h
    · exact h
    · have : s = e := Nat.le_antisymm he.1 h
      subst this
      exact absurd hl (he.2.2.2 hsL)
  unfold fX8_readNumber_72
  refine okP_bnd (okP_bnd ?_)
  have a1 : gI (sI (sI (sI M 390 (nI e)) 389 (nI (e10 (fD (gA M 6) s) (min (e - s) 4)))) 386 256) 390 - gI (sI (sI (sI M 390 (nI e)) 389 (nI (e10 (fD (gA M 6) s) (min (e - s) 4)))) 386 256) 387 = nI (e - s) := by
    rw [gI_ne (by decide), gI_ne (by decide), gI_at, gI_ne (by decide), gI_ne (by decide), gI_ne (by decide), hs, nI_subN (by omega)]
  rw [a1]
  by_cases h6 : e - s ≤ 4
  · exact okP_t (show nI (e - s) ≤ (4 : Int32) from nI_le (b := 4) h6 (by decide)) (okP_some ⟨e, he, hse, Or.inr ⟨h6, rfl⟩⟩)
  · refine okP_f (show ¬ nI (e - s) ≤ (4 : Int32) from nI_ge (a := 4) (by omega) (by have := he.2.1; omega)) (okP_bnd (okP_some ⟨e, he, hse, Or.inl ⟨by omega, ?_⟩⟩))
    rw [gI_ne (show (387 : Nat) ≠ 386 by decide), gI_ne (show (387 : Nat) ≠ 386 by decide), gI_ne (show (387 : Nat) ≠ 389 by decide), gI_ne (show (387 : Nat) ≠ 390 by decide), hs]
    rw [show (4 : Int32) = nI 4 from rfl, nI_add]
    rfl
end
section
/-! THE NEXT WORD, NUMBER OR SIGN, as the class reads it: advance -/
def adj (t : Nat → Int32) (s : Nat) : Prop := 0 < s ∧ (isLt (t (s - 1)) ∨ isDg (t (s - 1)))
theorem adj_iff {t : Nat → Int32} {L p s : Nat} {F : Prop} (hs : SkB t L p s) (hB : F ↔ adj t p) : adj t s ↔ (F ∧ p = s) := by
  by_cases h : p = s
  · subst h
    exact ⟨fun g => ⟨hB.mpr g, rfl⟩, fun g => hB.mp g.1⟩
  · refine ⟨fun g => ?_, fun g => absurd g.2 h⟩
    have h1 := hs.1
    have h2 := hs.2.2.1 (s - 1) (by omega) (by omega)
    rcases g.2 with q | q
    · exact absurd h2 (lt_blk q)
    · exact absurd h2 (dg_blk q)
def TokX (t : Nat → Int32) (L s e : Nat) (M' : Mem) : Prop :=
  gI M' 387 = nI s ∧ gI M' 390 = nI e ∧ s ≤ e ∧ e ≤ L ∧
  ((s = L ∧ e = s ∧ gI M' 386 = 259 ∧ gI M' 388 = nI s) ∨
   (s < L ∧ e = s + 1 ∧ ¬ isLt (t s) ∧ ¬ isDg (t s) ∧ gI M' 386 = t s ∧ gI M' 388 = nI s) ∨
   (s < L ∧ s < e ∧ RnB isLt t L s e ∧ isLt (t s) ∧ ((adj t s ∧ gI M' 386 = 258 ∧ gI M' 388 = nI s) ∨ (¬ adj t s ∧ 6 < e - s ∧ gI M' 386 = 258 ∧ gI M' 388 = nI (s + 6)) ∨ (¬ adj t s ∧ e - s ≤ 6 ∧ gI M' 388 = nI s ∧ gI M' 389 = nI (V27 t s e) ∧ ∃ k, kdOf (V27 t s e) k ∧ gI M' 386 = nI k))) ∨
   (s < L ∧ s < e ∧ RnB isDg t L s e ∧ isDg (t s) ∧ ((adj t s ∧ gI M' 386 = 258 ∧ gI M' 388 = nI s) ∨ (¬ adj t s ∧ 4 < e - s ∧ gI M' 386 = 258 ∧ gI M' 388 = nI (s + 4)) ∨ (¬ adj t s ∧ e - s ≤ 4 ∧ gI M' 388 = nI s ∧ gI M' 389 = nI (V10 t s e) ∧ gI M' 386 = 256))))
/-- only ints a .. b are other than before -/
def FI (a b : Nat) (M M' : Mem) : Prop := M'.2 = M.2 ∧ ∀ j, (j < a ∨ b < j) → gI M' j = gI M j
theorem FI.r {a b : Nat} {M : Mem} : FI a b M M := ⟨rfl, fun _ _ => rfl⟩
theorem FI.s {a b k : Nat} {v : Int32} {M M' : Mem} (h : FI a b M M') (h1 : a ≤ k) (h2 : k ≤ b) : FI a b M (sI M' k v) := ⟨h.1, fun j hj => by rw [gI_ne (by omega)]; exact h.2 j hj⟩
theorem FI.tr {a b : Nat} {M M' M2 : Mem} (h : FI a b M M') (h2 : FI a b M' M2) : FI a b M M2 := ⟨h2.1.trans h.1, fun j hj => (h2.2 j hj).trans (h.2 j hj)⟩
theorem FI.A {a b : Nat} {M M' : Mem} (h : FI a b M M') : gA M' = gA M := by
  show M'.2.1 = M.2.1
  rw [h.1]
theorem FI.R {a b : Nat} {M M' : Mem} (h : FI a b M M') : gR M' = gR M := by
  show M'.2.2.1 = M.2.2.1
  rw [h.1]
theorem xwon {n0 : Nat} {M : Mem} : fX8_isWordOrNumber n0 M = some (bI (256 ≤ gI M 386 ∧ ¬ gI M 386 = 259), M) := by
  unfold fX8_isWordOrNumber
  by_cases h1 : gI M 386 < 256
  · rw [if_pos h1, bI_f (fun h => absurd h.1 (Int32.not_le.mpr h1))]
  · by_cases h2 : gI M 386 = 259
    · rw [if_neg h1, if_pos h2, bI_f (fun h => h.2 h2)]
    · rw [if_neg h1, if_neg h2, bI_t ⟨Int32.not_lt.mp h1, h2⟩]
theorem xadv100 {n0 p s : Nat} {F : Prop} [Decidable F] {M : Mem} {Q : Mem → Prop} (hp : p < 2 ^ 31) (hs' : s < 2 ^ 31) (hs : gI M 387 = nI s) (h1 : (F ∧ p = s) → (256 ≤ gI M 386 ∧ ¬ gI M 386 = 259) → Q (sI (sI M 386 258) 388 (nI s))) (h2 : ¬ (F ∧ p = s) ∨ ¬ (256 ≤ gI M 386 ∧ ¬ gI M 386 = 259) → Q M) : okP (fX8_advance_100 n0 (bI F) (nI p) M) Q := by
  unfold fX8_advance_100
  by_cases hF : F
  · refine okP_f (fun q => bI_0.mp q hF) ?_
    rw [hs]
    by_cases e : s = p
    · refine okP_t (by rw [e]) (okP_be xwon ?_)
      by_cases hk : 256 ≤ gI M 386 ∧ ¬ gI M 386 = 259
      · refine okP_f (fun q => bI_0.mp q hk) (okP_bnd (okP_some ?_))
        rw [gI_ne (by decide), hs]
        exact h1 ⟨hF, e.symm⟩ hk
      · exact okP_t (bI_f hk) (okP_some (h2 (Or.inr hk)))
    · exact okP_f (fun q => e ((nI_eq hs' hp).mp q)) (okP_some (h2 (Or.inl (fun g => e g.2.symm))))
  · exact okP_t (bI_f hF) (okP_some (h2 (Or.inl (fun g => hF g.1))))
theorem i256 : (256 : Int32) ≤ 256 ∧ ¬ (256 : Int32) = 259 := by decide
theorem i258 : (256 : Int32) ≤ 258 ∧ ¬ (258 : Int32) = 259 := by decide
theorem kdOf_w {v k : Nat} (h : kdOf v k) : (256 : Int32) ≤ nI k ∧ ¬ nI k = 259 := by
  have h1 : 257 ≤ k ∧ k ≤ 284 ∧ k ≠ 259 := by rcases h.1 with h | h <;> omega
  exact ⟨nI_le (a := 256) (by omega) (by omega), fun e => h1.2.2 ((nI_eq (a := k) (b := 259) (by omega) (by decide)).mp e)⟩
/-- bytes -/
def Byt (t : Nat → Int32) (L : Nat) : Prop := ∀ i, i < L → 0 ≤ t i ∧ t i ≤ 255
theorem byt_sign {x : Int32} (h : 0 ≤ x ∧ x ≤ 255) : ¬ (256 ≤ x ∧ ¬ x = 259) := fun g => by
  have h1 := g.1
  have h2 := h.2
  rw [i_le] at h1 h2
  have a : (256 : Int32).toInt = 256 := by decide
  have b : (255 : Int32).toInt = 255 := by decide
  omega
theorem byt_m1 {x : Int32} (h : 0 ≤ x ∧ x ≤ 255) : ¬ x = -1 := fun g => by
  rw [g] at h
  exact absurd h (by decide)
theorem xadvance {n0 L p : Nat} {M : Mem} (hn : 1601 ≤ n0) (h16 : L ≤ 1600) (hL : gI M 641 = nI L) (hp : p ≤ L) (h390 : gI M 390 = nI p) (hB : (256 ≤ gI M 386 ∧ ¬ gI M 386 = 259) ↔ adj (gA M 6) p) (hby : Byt (gA M 6) L) (hO : ∀ i, i < 25 → gA M 4 i = nI (ownC i)) :
    okP (fX8_advance n0 M) (fun M' => (∃ s e, SkB (gA M 6) L p s ∧ TokX (gA M 6) L s e M') ∧ FI 386 390 M M') := by
  unfold fX8_advance
  refine okP_be xwon (okP_bnd (okP_bind (P := fun M' => ∃ s, SkB (gA M 6) L p s ∧ M' = sI M 390 (nI s)) ?_ ?_))
  · unfold fX8_skipBlanks
    refine okP_bnd ?_
    show okP (fX8_skipBlanks_5 n0 (gI M 390) M) _
    rw [h390]
    exact xskip h16 n0 p M hL hp h390 (by omega)
  intro z11 ⟨s, hs, hz⟩
  subst hz
  have hA := adj_iff hs hB
  refine okP_bnd (okP_bnd ?_)
  have e1 : gI (sI M 390 (nI s)) 390 = nI s := gI_at
  rw [e1]
  have e2 : gI (sI (sI M 390 (nI s)) 387 (nI s)) 390 = nI s := by rw [gI_ne (by decide), gI_at]
  rw [e2]
  have e3 : gI (sI (sI (sI M 390 (nI s)) 387 (nI s)) 388 (nI s)) 390 = nI s := by rw [gI_ne (by decide), gI_ne (by decide), gI_at]
  rw [e3]
  have hsl := hs.2.1
  have hN : FI 386 390 M (sI (sI (sI M 390 (nI s)) 387 (nI s)) 388 (nI s)) := ((FI.r.s (by decide) (by decide)).s (by decide) (by decide)).s (by decide) (by decide)
  have hN1 : gI (sI (sI (sI M 390 (nI s)) 387 (nI s)) 388 (nI s)) 641 = nI L := (hN.2 641 (by decide)).trans hL
  have hN2 : gI (sI (sI (sI M 390 (nI s)) 387 (nI s)) 388 (nI s)) 387 = nI s := by rw [gI_ne (by decide), gI_at]
  have hN3 : gI (sI (sI (sI M 390 (nI s)) 387 (nI s)) 388 (nI s)) 388 = nI s := gI_at
  show okP ((fX7_at n0 (nI s) (sI (sI (sI M 390 (nI s)) 387 (nI s)) 388 (nI s))).bind _) _
  have hN6 : gA (sI (sI (sI M 390 (nI s)) 387 (nI s)) 388 (nI s)) = gA M := hN.A
  generalize hMB : sI (sI (sI M 390 (nI s)) 387 (nI s)) 388 (nI s) = B at *
  show okP ((fX7_at n0 (nI s) B).bind fun z38 => (fX8_isLetter n0 z38.1 z38.2).bind fun z43 => if z43.1 = 0 then (fX8_isDigit n0 z38.1 z43.2).bind fun z57 => if z57.1 = 0 then if z38.1 = (-1 : Int32) then fX8_advance_100 n0 (bI (256 ≤ gI M 386 ∧ ¬ gI M 386 = 259)) (gI M 390) (sI z57.2 386 (259 : Int32)) else bnd (sI z57.2 386 z38.1) fun M87 => fX8_advance_100 n0 (bI (256 ≤ gI M 386 ∧ ¬ gI M 386 = 259)) (gI M 390) (sI M87 390 ((gI M87 390) + (1 : Int32))) else (fX8_readNumber n0 z57.2).bind fun z64 => fX8_advance_100 n0 (bI (256 ≤ gI M 386 ∧ ¬ gI M 386 = 259)) (gI M 390) z64 else (fX8_readWord n0 z43.2).bind fun z50 => fX8_advance_100 n0 (bI (256 ≤ gI M 386 ∧ ¬ gI M 386 = 259)) (gI M 390) z50) _
  rw [h390]
  by_cases hsL : s < L
  · refine okP_be (xat hN1 h16 hsL) (okP_be xlet ?_)
    rw [hN6]
    by_cases hl : isLt (gA M 6 s)
    · refine okP_f (fun q => bI_0.mp q hl) (okP_bind (xreadWord hn h16 hN1 hN2 e3 hsL (by rw [hN6]; exact hl) (fun i hi => by rw [hN6]; exact hO i hi)) ?_)
      rw [hN6]
      rintro z50 ⟨e, he, hse, ⟨h6, rfl⟩ | ⟨h6, k, hk, rfl⟩⟩
      · have hF : FI 386 390 M (sI (sI (sI B 390 (nI e)) 386 258) 388 (nI (s + 6))) := ((hN.s (by decide) (by decide)).s (by decide) (by decide)).s (by decide) (by decide)
        refine xadv100 (s := s) (by omega) (by omega) (by rw [gI_ne (by decide), gI_ne (by decide), gI_ne (by decide)]; exact hN2) (fun h1 _ => ⟨⟨s, e, hs, ?_⟩, (hF.s (by decide) (by decide)).s (by decide) (by decide)⟩) (fun h1 => ⟨⟨s, e, hs, ?_⟩, hF⟩)
        · exact ⟨by simp [gI_sI, hN2], by simp [gI_sI], by omega, he.2.1, Or.inr (Or.inr (Or.inl ⟨hsL, hse, he, hl, Or.inl ⟨hA.mpr h1, by simp [gI_sI], by simp [gI_sI]⟩⟩))⟩
        · refine ⟨by simp [gI_sI, hN2], by simp [gI_sI], by omega, he.2.1, Or.inr (Or.inr (Or.inl ⟨hsL, hse, he, hl, Or.inr (Or.inl ⟨fun g => ?_, h6, by simp [gI_sI], by simp [gI_sI]⟩)⟩))⟩
          rcases h1 with h1 | h1
          · exact h1 (hA.mp g)
          · exact h1 (by simp [gI_sI])
      · have hF : FI 386 390 M (sI (sI (sI B 390 (nI e)) 389 (nI (V27 (gA M 6) s e))) 386 (nI k)) := ((hN.s (by decide) (by decide)).s (by decide) (by decide)).s (by decide) (by decide)
        refine xadv100 (s := s) (by omega) (by omega) (by rw [gI_ne (by decide), gI_ne (by decide), gI_ne (by decide)]; exact hN2) (fun h1 _ => ⟨⟨s, e, hs, ?_⟩, (hF.s (by decide) (by decide)).s (by decide) (by decide)⟩) (fun h1 => ⟨⟨s, e, hs, ?_⟩, hF⟩)
        · exact ⟨by simp [gI_sI, hN2], by simp [gI_sI], by omega, he.2.1, Or.inr (Or.inr (Or.inl ⟨hsL, hse, he, hl, Or.inl ⟨hA.mpr h1, by simp [gI_sI], by simp [gI_sI]⟩⟩))⟩
        · refine ⟨by simp [gI_sI, hN2], by simp [gI_sI], by omega, he.2.1, Or.inr (Or.inr (Or.inl ⟨hsL, hse, he, hl, Or.inr (Or.inr ⟨fun g => ?_, h6, by simp [gI_sI, hN3], by simp [gI_sI], k, hk, by simp [gI_sI]⟩)⟩))⟩
          rcases h1 with h1 | h1
          · exact h1 (hA.mp g)
          · exact h1 (by rw [gI_at]; exact kdOf_w hk)
    · refine okP_t (bI_f hl) (okP_be xdig ?_)
      by_cases hd : isDg (gA M 6 s)
      · refine okP_f (fun q => bI_0.mp q hd) (okP_bind (xreadNum hn h16 hN1 hN2 e3 hsL (by rw [hN6]; exact hd)) ?_)
        rw [hN6]
        rintro z50 ⟨e, he, hse, ⟨h6, rfl⟩ | ⟨h6, rfl⟩⟩
        · have hF : FI 386 390 M (sI (sI (sI (sI (sI B 390 (nI e)) 389 (nI (V10 (gA M 6) s e))) 386 256) 386 258) 388 (nI (s + 4))) := ((((hN.s (by decide) (by decide)).s (by decide) (by decide)).s (by decide) (by decide)).s (by decide) (by decide)).s (by decide) (by decide)
          refine xadv100 (s := s) (by omega) (by omega) (by simp [gI_sI, hN2]) (fun h1 _ => ⟨⟨s, e, hs, ?_⟩, (hF.s (by decide) (by decide)).s (by decide) (by decide)⟩) (fun h1 => ⟨⟨s, e, hs, ?_⟩, hF⟩)
          · exact ⟨by simp [gI_sI, hN2], by simp [gI_sI], by omega, he.2.1, Or.inr (Or.inr (Or.inr ⟨hsL, hse, he, hd, Or.inl ⟨hA.mpr h1, by simp [gI_sI], by simp [gI_sI]⟩⟩))⟩
          · refine ⟨by simp [gI_sI, hN2], by simp [gI_sI], by omega, he.2.1, Or.inr (Or.inr (Or.inr ⟨hsL, hse, he, hd, Or.inr (Or.inl ⟨fun g => ?_, h6, by simp [gI_sI], by simp [gI_sI]⟩)⟩))⟩
            rcases h1 with h1 | h1
            · exact h1 (hA.mp g)
            · exact h1 (by simp [gI_sI])
        · have hF : FI 386 390 M (sI (sI (sI B 390 (nI e)) 389 (nI (V10 (gA M 6) s e))) 386 256) := ((hN.s (by decide) (by decide)).s (by decide) (by decide)).s (by decide) (by decide)
          refine xadv100 (s := s) (by omega) (by omega) (by simp [gI_sI, hN2]) (fun h1 _ => ⟨⟨s, e, hs, ?_⟩, (hF.s (by decide) (by decide)).s (by decide) (by decide)⟩) (fun h1 => ⟨⟨s, e, hs, ?_⟩, hF⟩)
          · exact ⟨by simp [gI_sI, hN2], by simp [gI_sI], by omega, he.2.1, Or.inr (Or.inr (Or.inr ⟨hsL, hse, he, hd, Or.inl ⟨hA.mpr h1, by simp [gI_sI], by simp [gI_sI]⟩⟩))⟩
          · refine ⟨by simp [gI_sI, hN2], by simp [gI_sI], by omega, he.2.1, Or.inr (Or.inr (Or.inr ⟨hsL, hse, he, hd, Or.inr (Or.inr ⟨fun g => ?_, h6, by simp [gI_sI, hN3], by simp [gI_sI], by simp [gI_sI]⟩)⟩))⟩
            rcases h1 with h1 | h1
            · exact h1 (hA.mp g)
            · exact h1 (by simp [gI_sI])
      · refine okP_t (bI_f hd) (okP_f (byt_m1 (hby s hsL)) (okP_bnd ?_))
        have e4 : gI (sI B 386 (gA M 6 s)) 390 + 1 = nI (s + 1) := by rw [gI_ne (by decide), e3, nI_1]
        show okP (fX8_advance_100 n0 _ (nI p) (sI (sI B 386 (gA M 6 s)) 390 (gI (sI B 386 (gA M 6 s)) 390 + 1))) _
        rw [e4]
        have hF : FI 386 390 M (sI (sI B 386 (gA M 6 s)) 390 (nI (s + 1))) := (hN.s (by decide) (by decide)).s (by decide) (by decide)
        refine xadv100 (s := s) (by omega) (by omega) (by simp [gI_sI, hN2]) (fun h1 h2 => ?_) (fun h1 => ⟨⟨s, s + 1, hs, ?_⟩, hF⟩)
        · rw [gI_ne (by decide), gI_at] at h2
          exact absurd h2 (byt_sign (hby s hsL))
        · exact ⟨by simp [gI_sI, hN2], by simp [gI_sI], by omega, by omega, Or.inr (Or.inl ⟨hsL, rfl, hl, hd, by simp [gI_sI], by simp [gI_sI, hN3]⟩)⟩
  · refine okP_be (xat_end hN1 (by omega) (by omega)) (okP_be xlet ?_)
    refine okP_t (bI_f (p := isLt (-1)) (by decide)) (okP_be xdig (okP_t (bI_f (p := isDg (-1)) (by decide)) (okP_t rfl ?_)))
    have hF : FI 386 390 M (sI B 386 259) := hN.s (by decide) (by decide)
    refine xadv100 (s := s) (by omega) (by omega) (by simp [gI_sI, hN2]) (fun h1 h2 => ?_) (fun h1 => ⟨⟨s, s, hs, ?_⟩, hF⟩)
    · rw [gI_at] at h2
      exact absurd rfl h2.2
    · exact ⟨by simp [gI_sI, hN2], by rw [gI_ne (by decide)]; exact e3, by omega, by omega, Or.inl ⟨by omega, rfl, by simp [gI_sI], by simp [gI_sI, hN3]⟩⟩
end
section
/-! THE NEXT WORD, NUMBER OR SIGN, as the reference reads it. u_tn, g_or, g_shl began as rows of kit/laws -/
theorem u_tn {n : Nat} (h : n < 2 ^ 64) : (UInt64.ofNat n).toNat = n := Nat.mod_eq_of_lt h
theorem g_or {k p a b : Nat} (hp : 2 ^ k = p) (ha : a < p) (h : b * p + a < 2 ^ 64) : lN (b * p) ||| lN a = lN (b * p + a) := by
  subst hp
  have h1 : b * 2 ^ k ||| a = b * 2 ^ k + a := by rw [← Nat.shiftLeft_eq, Nat.shiftLeft_add_eq_or_of_lt ha]
  have h3 : UInt64.ofNat (b * 2 ^ k) ||| UInt64.ofNat a = UInt64.ofNat (b * 2 ^ k + a) := UInt64.toNat_inj.mp (by rw [UInt64.toNat_or, u_tn (by omega), u_tn (by omega), u_tn h, h1])
  have h2 := congrArg UInt64.toInt64 h3
  exact h2
theorem g_shl {a k p : Nat} {y : Int64} (hy : y.toBitVec.smod 64 = BitVec.ofNat 64 k) (hk : k < 64) (hp : 2 ^ k = p) (ha : a < 2 ^ 64) : lN a <<< y = lN (a * p) := by
  subst hp
  apply Int64.toBitVec_inj.mp
  rw [Int64.toBitVec_shiftLeft, hy]
  apply BitVec.eq_of_toNat_eq
  have hb : (lN a).toBitVec.toNat = a := Nat.mod_eq_of_lt ha
  have hk' : (BitVec.ofNat 64 k).toNat = k := Nat.mod_eq_of_lt (by omega)
  have h : ((lN a).toBitVec <<< BitVec.ofNat 64 k).toNat = (a * 2 ^ k) % 2 ^ 64 := by simp only [BitVec.shiftLeft_eq', BitVec.toNat_shiftLeft, hb, hk', Nat.shiftLeft_eq]
  exact h
def e256 (f : Nat → Nat) : Nat → Nat
  | 0 => 0
  | n + 1 => 256 * e256 f n + (f n + 96)
theorem e256_lt {f : Nat → Nat} : ∀ {n : Nat}, (∀ i, i < n → f i ≤ 26) → e256 f n < 256 ^ n
  | 0, _ => Nat.lt_of_sub_eq_succ rfl
  | n + 1, h => by
    have h1 := e256_lt (f := f) (n := n) (fun i hi => h i (by omega))
    have h2 := h n (by omega)
    rw [e256, Nat.pow_succ]
    omega
theorem w256 {c v : Nat} (hc : c < 2 ^ 48) (hv : v ≤ 26) : (lN c <<< ((8 : Int32).toInt64 &&& 63)) ||| (nI (v + 96)).toInt64 = lN (256 * c + (v + 96)) := by
  rw [g_shl (k := 8) (p := 256) (by decide) (by decide) (by decide) (by omega), nI_l (by omega), g_or (k := 8) (by decide) (by omega) (by omega)]
  congr 1
  omega
theorem ylet {n0 : Nat} {x : Int32} {M : Mem} : fX12_isLetter n0 x M = some (bI (isLt x), M) := by unfold fX12_isLetter; exact rng_bI
theorem ydig {n0 : Nat} {x : Int32} {M : Mem} : fX12_isDigit n0 x M = some (bI (isDg x), M) := by unfold fX12_isDigit; exact rng_bI
theorem yskip {n0 L : Nat} {M : Mem} {Q : Mem → Prop} (h16 : L ≤ 1600) (hL : gI M 2 = nI L) : ∀ (w p : Nat), p ≤ L → L < w + p → (∀ s, SkB (gA M 1) L p s → okP (fX12_ahead_41 n0 (nI s) M) Q) → okP (loopN (bX12_ahead_5 n0) (fun _ _ => none) w (nI p) M) Q := by
  intro w
  induction w with
  | zero => intro p _ h; omega
  | succ w ih =>
    intro p hp hw hQ
    rw [lpS, bX12_ahead_5]
    have step : blk (gA M 1 p) → p < L → okP (fX12_ahead_35 n0 (loopN (bX12_ahead_5 n0) (fun _ _ => none) w) (nI p) M) Q := by
      intro hb hpL
      unfold fX12_ahead_35
      rw [nI_1]
      refine ih (p + 1) (by omega) (by omega) (fun s hs => hQ s ⟨by have := hs.1; omega, hs.2.1, fun i h1 h2 => ?_, hs.2.2.2⟩)
      by_cases hi : i = p
      · rw [hi]; exact hb
      · exact hs.2.2.1 i (by omega) h2
    by_cases h : L ≤ p
    · exact okP_t (by rw [hL]; exact nI_le h (by omega)) (hQ p ⟨Nat.le_refl p, hp, fun i h1 h2 => by omega, fun h1 => by omega⟩)
    · refine okP_f (by rw [hL]; exact nI_ge (by omega) (by omega)) (okP_f (nI_in (by omega) (by decide)) ?_)
      have hcl : (nI p).toNatClampNeg = p := nI_clamp (by omega)
      simp only [hcl]
      refine okP_ite (fun hb => step (Or.inl hb) (by omega)) (fun hb => okP_f (nI_in (by omega) (by decide)) (okP_ite (fun hc => step (Or.inr hc) (by omega)) (fun hc => hQ p ⟨Nat.le_refl p, hp, fun i h1 h2 => by omega, fun _ g => ?_⟩)))
      rcases g with g | g
      · exact hb g
      · exact hc g
def lxA (a : Int32) (m s k : Nat) : Int32 := if a = -1 then (if m < k - s then nI (s + m) else -1) else a
theorem yword {n0 L s : Nat} {a : Int32} {t : Nat → Int32} (h16 : L ≤ 1600) : ∀ (w k : Nat) (M : Mem), gI M 2 = nI L → gA M 1 = t → s ≤ k → k ≤ L → L < w + k → (∀ i, s ≤ i → i < k → isLt (t i)) → gL M 7 = lN (e256 (fL t s) (min (k - s) 6)) → gI M 12 = lxA a 6 s k →
    okP (loopN (bX12_ahead_204 n0) (fun _ _ _ _ _ _ => none) w (nI k) 1 0 6 (nI (k - s)) M) (fun M' => ∃ e, RnB isLt t L k e ∧ gI M' 5 = nI e ∧ gL M' 7 = lN (e256 (fL t s) (min (e - s) 6)) ∧ gI M' 12 = lxA a 6 s e ∧ Frm (fun j => j = 5 ∨ j = 12) noN (fun j => j = 7) noN M M') := by
  intro w
  induction w with
  | zero => intro k M _ _ _ _ h; omega
  | succ w ih =>
    intro k M hL ht hsk hkL hw hrun h7 h12
    rw [lpS, bX12_ahead_204]
    have stop : RnB isLt t L k k → okP (fX12_ahead_334 n0 (nI k) M) (fun M' => ∃ e, RnB isLt t L k e ∧ gI M' 5 = nI e ∧ gL M' 7 = lN (e256 (fL t s) (min (e - s) 6)) ∧ gI M' 12 = lxA a 6 s e ∧ Frm (fun j => j = 5 ∨ j = 12) noN (fun j => j = 7) noN M M') :=
      fun hr => okP_some ⟨k, hr, gI_at, h7, by rw [gI_ne (by decide)]; exact h12, Frm.r.sI (Or.inl rfl)⟩
    by_cases h : L ≤ k
    · exact okP_t (by rw [hL]; exact nI_le h (by omega)) (stop ⟨Nat.le_refl k, hkL, fun i h1 h2 => by omega, fun h1 => by omega⟩)
    refine okP_f (by rw [hL]; exact nI_ge (by omega) (by omega)) (okP_f i10 (okP_f (nI_in (by omega) (by decide)) (okP_be ylet ?_)))
    rw [nI_clamp (by omega), ht]
    by_cases hl : isLt (t k)
    · refine okP_f (fun q => bI_0.mp q hl) ?_
      have next : ∀ M2 : Mem, Frm (fun j => j = 5 ∨ j = 12) noN (fun j => j = 7) noN M M2 → gL M2 7 = lN (e256 (fL t s) (min (k + 1 - s) 6)) → gI M2 12 = lxA a 6 s (k + 1) → okP (fX12_ahead_325 n0 (loopN (bX12_ahead_204 n0) (fun _ _ _ _ _ _ => none) w) (nI k) 1 0 6 (nI (k - s)) M2) (fun M' => ∃ e, RnB isLt t L k e ∧ gI M' 5 = nI e ∧ gL M' 7 = lN (e256 (fL t s) (min (e - s) 6)) ∧ gI M' 12 = lxA a 6 s e ∧ Frm (fun j => j = 5 ∨ j = 12) noN (fun j => j = 7) noN M M') := by
        intro M2 hF g7 g12
        unfold fX12_ahead_325
        rw [nI_1, nI_1, show k - s + 1 = k + 1 - s by omega]
        refine okP_mono (ih (k + 1) M2 (by rw [hF.1 2 (by omega)]; exact hL) (by rw [hF.2.1 1 id]; exact ht) (by omega) (by omega) (by omega) (fun i h1 h2 => ?_) g7 g12) ?_
        · by_cases hi : i = k
          · rw [hi]; exact hl
          · exact hrun i h1 (by omega)
        · intro M' ⟨e, he, a1, a2, a3, a4⟩
          refine ⟨e, ⟨by have := he.1; omega, he.2.1, fun i h1 h2 => ?_, he.2.2.2⟩, a1, a2, a3, hF.tr a4⟩
          by_cases hi : i = k
          · rw [hi]; exact hl
          · exact he.2.2.1 i (by omega) h2
      have two93 : ∀ M2 : Mem, Frm (fun j => j = 5 ∨ j = 12) noN (fun j => j = 7) noN M M2 → gL M2 7 = lN (e256 (fL t s) (min (k + 1 - s) 6)) → gI M2 12 = lxA a 6 s (k + 1) → okP (fX12_ahead_293 n0 (loopN (bX12_ahead_204 n0) (fun _ _ _ _ _ _ => none) w) (nI k) 1 0 6 (nI (k - s)) M2) (fun M' => ∃ e, RnB isLt t L k e ∧ gI M' 5 = nI e ∧ gL M' 7 = lN (e256 (fL t s) (min (e - s) 6)) ∧ gI M' 12 = lxA a 6 s e ∧ Frm (fun j => j = 5 ∨ j = 12) noN (fun j => j = 7) noN M M') := by
        intro M2 hF g7 g12
        unfold fX12_ahead_293
        exact okP_ite (fun _ => next M2 hF g7 g12) (fun _ => okP_t rfl (next M2 hF g7 g12))
      unfold fX12_ahead_243
      by_cases h6 : k - s < 6
      · refine okP_f (fun q => ?_) ?_
        · have := (nI_eq (a := k - s) (b := 6) (by omega) (by decide)).mp q
          omega
        unfold fX12_ahead_263
        refine okP_f (nI_ge (b := 6) h6 (by decide)) (okP_f i10 (okP_f (nI_in (by omega) (by decide)) ?_))
        rw [nI_clamp (by omega)]
        refine two93 _ (Frm.r.sL rfl) ?_ ?_
        · rw [gL_sL, if_pos rfl, h7, ht, (isLt_v hl).2.2]
          rw [w256]
          · rw [show min (k + 1 - s) 6 = k - s + 1 by omega, show min (k - s) 6 = k - s by omega, e256]
            unfold fL
            rw [show s + (k - s) = k by omega]
          · have h1 := e256_lt (f := fL t s) (n := k - s) (fun i hi => (isLt_v (hrun (s + i) (by omega) (by omega))).2.1)
            rw [show min (k - s) 6 = k - s by omega]
            exact Nat.lt_of_lt_of_le h1 (show 256 ^ (k - s) ≤ 256 ^ 6 from Nat.pow_le_pow_right (by decide) (by omega))
          · exact (isLt_v hl).2.1
        · show gI M 12 = _
          rw [h12]
          unfold lxA
          rw [if_neg (show ¬ 6 < k - s by omega), if_neg (show ¬ 6 < k + 1 - s by omega)]
      · have tail : ∀ M2 : Mem, Frm (fun j => j = 5 ∨ j = 12) noN (fun j => j = 7) noN M M2 → gL M2 7 = gL M 7 → gI M2 12 = lxA a 6 s (k + 1) → okP (fX12_ahead_263 n0 (loopN (bX12_ahead_204 n0) (fun _ _ _ _ _ _ => none) w) (nI k) 1 0 6 (nI (k - s)) M2) (fun M' => ∃ e, RnB isLt t L k e ∧ gI M' 5 = nI e ∧ gL M' 7 = lN (e256 (fL t s) (min (e - s) 6)) ∧ gI M' 12 = lxA a 6 s e ∧ Frm (fun j => j = 5 ∨ j = 12) noN (fun j => j = 7) noN M M') := by
          intro M2 hF g7 g12
          unfold fX12_ahead_263
          refine okP_t (nI_le (a := 6) (by omega) (by omega)) (two93 M2 hF ?_ g12)
          rw [g7, h7, show min (k - s) 6 = 6 by omega, show min (k + 1 - s) 6 = 6 by omega]
        by_cases e6 : k - s = 6
        · refine okP_t (by rw [e6]; rfl) ?_
          rw [h12]
          have ek : k = s + 6 := by omega
          unfold lxA
          rw [if_neg (show ¬ 6 < k - s by omega)]
          by_cases ha : a = -1
          · rw [if_pos ha]
            refine okP_t rfl (tail _ (Frm.r.sI (Or.inr rfl)) rfl ?_)
            rw [gI_at]
            unfold lxA
            rw [if_pos ha, if_pos (by omega), ek]
          · rw [if_neg ha]
            refine okP_f ha (tail _ Frm.r rfl ?_)
            rw [h12]
            unfold lxA
            rw [if_neg ha, if_neg ha]
        · refine okP_f (fun q => e6 ((nI_eq (a := k - s) (b := 6) (by omega) (by decide)).mp q)) (tail _ Frm.r rfl ?_)
          rw [h12]
          unfold lxA
          rw [if_pos (show 6 < k - s by omega), if_pos (show 6 < k + 1 - s by omega)]
    · exact okP_t (bI_f hl) (stop ⟨Nat.le_refl k, hkL, fun i h1 h2 => by omega, fun _ => hl⟩)
end
section
/-! THE NEXT WORD, NUMBER OR SIGN, as the reference reads it: numbers, ahead -/
theorem ynum {n0 L s : Nat} {a : Int32} {t : Nat → Int32} (h16 : L ≤ 1600) : ∀ (w k : Nat) (M : Mem), gI M 2 = nI L → gA M 1 = t → s ≤ k → k ≤ L → L < w + k → (∀ i, s ≤ i → i < k → isDg (t i)) → gI M 6 = nI (e10 (fD t s) (min (k - s) 4)) → gI M 12 = lxA a 4 s k →
    okP (loopN (bX12_ahead_204 n0) (fun _ _ _ _ _ _ => none) w (nI k) 0 1 4 (nI (k - s)) M) (fun M' => ∃ e, RnB isDg t L k e ∧ gI M' 5 = nI e ∧ gI M' 6 = nI (e10 (fD t s) (min (e - s) 4)) ∧ gI M' 12 = lxA a 4 s e ∧ Frm (fun j => j = 5 ∨ j = 6 ∨ j = 12) noN (fun j => j = 7) noN M M') := by
  intro w
  induction w with
  | zero => intro k M _ _ _ _ h; omega
  | succ w ih =>
    intro k M hL ht hsk hkL hw hrun h6v h12
    rw [lpS, bX12_ahead_204]
    have stop : RnB isDg t L k k → okP (fX12_ahead_334 n0 (nI k) M) (fun M' => ∃ e, RnB isDg t L k e ∧ gI M' 5 = nI e ∧ gI M' 6 = nI (e10 (fD t s) (min (e - s) 4)) ∧ gI M' 12 = lxA a 4 s e ∧ Frm (fun j => j = 5 ∨ j = 6 ∨ j = 12) noN (fun j => j = 7) noN M M') :=
      fun hr => okP_some ⟨k, hr, gI_at, by rw [gI_ne (by decide)]; exact h6v, by rw [gI_ne (by decide)]; exact h12, Frm.r.sI (Or.inl rfl)⟩
    by_cases h : L ≤ k
    · exact okP_t (by rw [hL]; exact nI_le h (by omega)) (stop ⟨Nat.le_refl k, hkL, fun i h1 h2 => by omega, fun h1 => by omega⟩)
    refine okP_f (by rw [hL]; exact nI_ge (by omega) (by omega)) (okP_t rfl (okP_f (nI_in (by omega) (by decide)) (okP_be ydig ?_)))
    rw [nI_clamp (by omega), ht]
    by_cases hl : isDg (t k)
    · refine okP_f (fun q => bI_0.mp q hl) ?_
      have next : ∀ M2 : Mem, Frm (fun j => j = 5 ∨ j = 6 ∨ j = 12) noN (fun j => j = 7) noN M M2 → gI M2 6 = nI (e10 (fD t s) (min (k + 1 - s) 4)) → gI M2 12 = lxA a 4 s (k + 1) → okP (fX12_ahead_325 n0 (loopN (bX12_ahead_204 n0) (fun _ _ _ _ _ _ => none) w) (nI k) 0 1 4 (nI (k - s)) M2) (fun M' => ∃ e, RnB isDg t L k e ∧ gI M' 5 = nI e ∧ gI M' 6 = nI (e10 (fD t s) (min (e - s) 4)) ∧ gI M' 12 = lxA a 4 s e ∧ Frm (fun j => j = 5 ∨ j = 6 ∨ j = 12) noN (fun j => j = 7) noN M M') := by
        intro M2 hF g7 g12
        unfold fX12_ahead_325
        rw [nI_1, nI_1, show k - s + 1 = k + 1 - s by omega]
        refine okP_mono (ih (k + 1) M2 (by rw [hF.1 2 (by omega)]; exact hL) (by rw [hF.2.1 1 id]; exact ht) (by omega) (by omega) (by omega) (fun i h1 h2 => ?_) g7 g12) ?_
        · by_cases hi : i = k
          · rw [hi]; exact hl
          · exact hrun i h1 (by omega)
        · intro M' ⟨e, he, a1, a2, a3, a4⟩
          refine ⟨e, ⟨by have := he.1; omega, he.2.1, fun i h1 h2 => ?_, he.2.2.2⟩, a1, a2, a3, hF.tr a4⟩
          by_cases hi : i = k
          · rw [hi]; exact hl
          · exact he.2.2.1 i (by omega) h2
      have tail : ∀ M2 : Mem, Frm (fun j => j = 5 ∨ j = 6 ∨ j = 12) noN (fun j => j = 7) noN M M2 → gI M2 6 = gI M 6 → gI M2 12 = lxA a 4 s (k + 1) → okP (fX12_ahead_263 n0 (loopN (bX12_ahead_204 n0) (fun _ _ _ _ _ _ => none) w) (nI k) 0 1 4 (nI (k - s)) M2) (fun M' => ∃ e, RnB isDg t L k e ∧ gI M' 5 = nI e ∧ gI M' 6 = nI (e10 (fD t s) (min (e - s) 4)) ∧ gI M' 12 = lxA a 4 s e ∧ Frm (fun j => j = 5 ∨ j = 6 ∨ j = 12) noN (fun j => j = 7) noN M M') := by
        intro M2 hF g7 g12
        have sub : okP (fX12_ahead_293 n0 (loopN (bX12_ahead_204 n0) (fun _ _ _ _ _ _ => none) w) (nI k) 0 1 4 (nI (k - s)) M2) (fun M' => ∃ e, RnB isDg t L k e ∧ gI M' 5 = nI e ∧ gI M' 6 = nI (e10 (fD t s) (min (e - s) 4)) ∧ gI M' 12 = lxA a 4 s e ∧ Frm (fun j => j = 5 ∨ j = 6 ∨ j = 12) noN (fun j => j = 7) noN M M') := by
          unfold fX12_ahead_293
          by_cases h6 : 4 ≤ k - s
          · refine okP_t (nI_le (a := 4) (by omega) (by omega)) (next M2 hF ?_ g12)
            rw [g7, h6v, show min (k - s) 4 = 4 by omega, show min (k + 1 - s) 4 = 4 by omega]
          · refine okP_f (nI_ge (b := 4) (by omega) (by decide)) (okP_f i10 (okP_f (nI_in (by omega) (by decide)) ?_))
            rw [nI_clamp (by omega), hF.2.1 1 id, ht, g7, h6v, (isDg_v hl).2, n10]
            refine next _ (hF.sI (Or.inr (Or.inl rfl))) ?_ (by rw [gI_ne (by decide)]; exact g12)
            rw [gI_at, show min (k + 1 - s) 4 = k - s + 1 by omega, show min (k - s) 4 = k - s by omega, e10]
            unfold fD
            rw [show s + (k - s) = k by omega]
        unfold fX12_ahead_263
        exact okP_ite (fun _ => sub) (fun _ => okP_t rfl sub)
      unfold fX12_ahead_243
      by_cases e6 : k - s = 4
      · refine okP_t (by rw [e6]; rfl) ?_
        rw [h12]
        have ek : k = s + 4 := by omega
        unfold lxA
        rw [if_neg (show ¬ 4 < k - s by omega)]
        by_cases ha : a = -1
        · rw [if_pos ha]
          refine okP_t rfl (tail _ (Frm.r.sI (Or.inr (Or.inr rfl))) rfl ?_)
          rw [gI_at]
          unfold lxA
          rw [if_pos ha, if_pos (by omega), ek]
        · rw [if_neg ha]
          refine okP_f ha (tail _ Frm.r rfl ?_)
          rw [h12]
          unfold lxA
          rw [if_neg ha, if_neg ha]
      · refine okP_f (fun q => e6 ((nI_eq (a := k - s) (b := 4) (by omega) (by decide)).mp q)) (tail _ Frm.r rfl ?_)
        rw [h12]
        unfold lxA
        by_cases h5 : 4 < k - s
        · rw [if_pos h5, if_pos (show 4 < k + 1 - s by omega)]
        · rw [if_neg h5, if_neg (show ¬ 4 < k + 1 - s by omega)]
    · exact okP_t (bI_f hl) (stop ⟨Nat.le_refl k, hkL, fun i h1 h2 => by omega, fun _ => hl⟩)
def TokY (t : Nat → Int32) (L s e : Nat) (M' : Mem) : Prop :=
  gI M' 4 = nI s ∧ gI M' 5 = nI e ∧ s ≤ e ∧ e ≤ L ∧
  ((s = L ∧ e = s ∧ gI M' 3 = 0 ∧ gI M' 12 = -1) ∨
   (s < L ∧ e = s + 1 ∧ ¬ isLt (t s) ∧ ¬ isDg (t s) ∧ gI M' 3 = 3 ∧ gI M' 6 = t s ∧ gI M' 12 = -1) ∨
   (s < L ∧ s < e ∧ RnB isLt t L s e ∧ isLt (t s) ∧ gI M' 3 = 1 ∧ ((adj t s ∧ gI M' 12 = nI s) ∨ (¬ adj t s ∧ 6 < e - s ∧ gI M' 12 = nI (s + 6)) ∨ (¬ adj t s ∧ e - s ≤ 6 ∧ gI M' 12 = -1 ∧ gL M' 7 = lN (e256 (fL t s) (e - s))))) ∨
   (s < L ∧ s < e ∧ RnB isDg t L s e ∧ isDg (t s) ∧ gI M' 3 = 2 ∧ ((adj t s ∧ gI M' 12 = nI s) ∨ (¬ adj t s ∧ 4 < e - s ∧ gI M' 12 = nI (s + 4)) ∨ (¬ adj t s ∧ e - s ≤ 4 ∧ gI M' 12 = -1 ∧ gI M' 6 = nI (V10 t s e)))))
/-- what ahead() changes -/
def FrA : Mem → Mem → Prop := Frm (fun j => (3 ≤ j ∧ j ≤ 6) ∨ j = 12) noN (fun j => j = 7) noN
theorem FrA.r {M : Mem} : FrA M M := Frm.r
theorem FrA.i {M M' : Mem} {k : Nat} {v : Int32} (h : FrA M M') (hk : (3 ≤ k ∧ k ≤ 6) ∨ k = 12) : FrA M (sI M' k v) := Frm.sI h hk
theorem FrA.l {M M' : Mem} {v : Int64} (h : FrA M M') : FrA M (sL M' 7 v) := Frm.sL h rfl
theorem FrA.tr {M M' M2 : Mem} (h : FrA M M') (h2 : FrA M' M2) : FrA M M2 := Frm.tr h h2
theorem y98 {n0 s : Nat} {x2 x3 : Int32} {t : Nat → Int32} {M : Mem} {Q : Mem → Prop} (hs : s < 1600) (ht : gA M 1 = t) (h1 : adj t s → okP (fX12_ahead_135 n0 (nI s) x2 x3 (sI M 12 (nI s))) Q) (h2 : ¬ adj t s → okP (fX12_ahead_135 n0 (nI s) x2 x3 M) Q) : okP (fX12_ahead_98 n0 (nI s) x2 x3 M) Q := by
  unfold fX12_ahead_98
  by_cases h0 : s = 0
  · subst h0
    exact okP_t (by decide) (h2 (fun g => absurd g.1 (by decide)))
  · obtain ⟨r, rfl⟩ : ∃ r, s = r + 1 := ⟨s - 1, by omega⟩
    rw [nI_pred]
    refine okP_f (nI_nle (by omega) (by omega)) (okP_f (nI_in (by omega) (by decide)) (okP_be ylet ?_))
    have hcl : (nI r).toNatClampNeg = r := nI_clamp (by omega)
    simp only [hcl, ht]
    by_cases hl : isLt (t r)
    · refine okP_f (fun q => bI_0.mp q hl) ?_
      unfold fX12_ahead_130
      exact h1 ⟨by omega, Or.inl hl⟩
    · refine okP_t (bI_f hl) (okP_f (nI_in (by omega) (by decide)) (okP_be ydig ?_))
      by_cases hd : isDg (t r)
      · refine okP_f (fun q => bI_0.mp q hd) ?_
        unfold fX12_ahead_130
        exact h1 ⟨by omega, Or.inr hd⟩
      · refine okP_t (bI_f hd) (h2 (fun g => ?_))
        rcases g.2 with q | q
        · exact hl q
        · exact hd q
theorem y135w {n0 L s : Nat} {a : Int32} {t : Nat → Int32} {M : Mem} (hn : 1601 ≤ n0) (h16 : L ≤ 1600) (hL : gI M 2 = nI L) (ht : gA M 1 = t) (hsL : s < L) (hl : isLt (t s)) (h4 : gI M 4 = nI s) (ha : gI M 12 = a) :
    okP (fX12_ahead_135 n0 (nI s) 1 0 M) (fun M' => ∃ e, s < e ∧ RnB isLt t L s e ∧ gI M' 4 = nI s ∧ gI M' 5 = nI e ∧ gI M' 3 = 1 ∧ gL M' 7 = lN (e256 (fL t s) (min (e - s) 6)) ∧ gI M' 12 = lxA a 6 s e ∧ FrA M M') := by
  unfold fX12_ahead_135
  refine okP_bnd (okP_bnd (okP_bnd (okP_bnd (okP_f i10 ?_))))
  unfold fX12_ahead_176
  refine okP_f i10 ?_
  unfold fX12_ahead_186
  refine okP_bnd (okP_f i10 ?_)
  unfold fX12_ahead_199 fX12_ahead_204
  have h0 : (0 : Int32) = nI (s - s) := by rw [Nat.sub_self]; rfl
  have hz : lxA a 6 s s = a := by
    unfold lxA
    rw [Nat.sub_self, if_neg (show ¬ 6 < 0 by decide)]
    by_cases q : a = -1
    · rw [if_pos q, q]
    · rw [if_neg q]
  have hF : FrA M (sI (sI (sI (sL (sI M 6 0) 7 0) 3 3) 5 (nI s + 1)) 3 1) := ((((FrA.r.i (by decide)).l).i (by decide)).i (by decide)).i (by decide)
  have key := yword (n0 := n0) (L := L) (s := s) (a := a) (t := t) h16 n0 s (sI (sI (sI (sL (sI M 6 0) 7 0) 3 3) 5 (nI s + 1)) 3 1) (by rw [hF.1 2 (by omega)]; exact hL) (by rw [hF.2.1 1 id]; exact ht) (Nat.le_refl s) (by omega) (by omega) (fun i h1 h2 => by omega) (by rw [Nat.sub_self]; rfl) (by rw [hz, ← ha]; simp [gI_sI, gI_sL])
  rw [← h0] at key
  refine okP_mono key ?_
  intro M' ⟨e, he, a1, a2, a3, a4⟩
  have hse : s < e := by
    rcases Nat.lt_or_ge s e with h | h
    · exact h
    · have : s = e := Nat.le_antisymm he.1 h
      subst this
      exact absurd hl (he.2.2.2 hsL)
  have hG : FrA M M' := hF.tr (a4.wk (fun k hk => by omega) (fun k hk => hk) (fun k hk => hk) (fun k hk => hk))
  refine ⟨e, hse, he, ?_, a1, ?_, a2, a3, hG⟩
  · rw [a4.1 4 (by omega)]
    simp [gI_sI, gI_sL, h4]
  · rw [a4.1 3 (by omega)]
    simp [gI_sI]
theorem y135n {n0 L s : Nat} {a : Int32} {t : Nat → Int32} {M : Mem} (hn : 1601 ≤ n0) (h16 : L ≤ 1600) (hL : gI M 2 = nI L) (ht : gA M 1 = t) (hsL : s < L) (hl : isDg (t s)) (h4 : gI M 4 = nI s) (ha : gI M 12 = a) :
    okP (fX12_ahead_135 n0 (nI s) 0 1 M) (fun M' => ∃ e, s < e ∧ RnB isDg t L s e ∧ gI M' 4 = nI s ∧ gI M' 5 = nI e ∧ gI M' 3 = 2 ∧ gI M' 6 = nI (V10 t s e) ∧ gI M' 12 = lxA a 4 s e ∧ FrA M M') := by
  unfold fX12_ahead_135
  refine okP_bnd (okP_bnd (okP_bnd (okP_bnd (okP_t rfl (okP_f i10 ?_)))))
  unfold fX12_ahead_176
  refine okP_t rfl ?_
  unfold fX12_ahead_186
  refine okP_bnd (okP_t rfl ?_)
  unfold fX12_ahead_199 fX12_ahead_204
  have h0 : (0 : Int32) = nI (s - s) := by rw [Nat.sub_self]; rfl
  have hz : lxA a 4 s s = a := by
    unfold lxA
    rw [Nat.sub_self, if_neg (show ¬ 4 < 0 by decide)]
    by_cases q : a = -1
    · rw [if_pos q, q]
    · rw [if_neg q]
  have hF : FrA M (sI (sI (sI (sL (sI M 6 0) 7 0) 3 3) 5 (nI s + 1)) 3 2) := ((((FrA.r.i (by decide)).l).i (by decide)).i (by decide)).i (by decide)
  have key := ynum (n0 := n0) (L := L) (s := s) (a := a) (t := t) h16 n0 s (sI (sI (sI (sL (sI M 6 0) 7 0) 3 3) 5 (nI s + 1)) 3 2) (by rw [hF.1 2 (by omega)]; exact hL) (by rw [hF.2.1 1 id]; exact ht) (Nat.le_refl s) (by omega) (by omega) (fun i h1 h2 => by omega) (by rw [Nat.sub_self]; rfl) (by rw [hz, ← ha]; simp [gI_sI, gI_sL])
  rw [show nI (s - s) = (0 : Int32) from h0.symm] at key
  refine okP_mono key ?_
  intro M' ⟨e, he, a1, a2, a3, a4⟩
  have hse : s < e := by
    rcases Nat.lt_or_ge s e with h | h
    · exact h
    · have : s = e := Nat.le_antisymm he.1 h
      subst this
      exact absurd hl (he.2.2.2 hsL)
  have hG : FrA M M' := hF.tr (a4.wk (fun k hk => by omega) (fun k hk => hk) (fun k hk => hk) (fun k hk => hk))
  refine ⟨e, hse, he, ?_, a1, ?_, a2, a3, hG⟩
  · rw [a4.1 4 (by omega)]
    simp [gI_sI, gI_sL, h4]
  · rw [a4.1 3 (by omega)]
    simp [gI_sI]
theorem lxA_s {s e m : Nat} (hs : s < 2 ^ 31) : lxA (nI s) m s e = nI s := by
  unfold lxA
  rw [if_neg (fun q => ?_)]
  have := nI_pos (n := s) hs
  rw [q] at this
  exact this (by decide)
theorem yahead {n0 L p : Nat} {M : Mem} (hn : 1601 ≤ n0) (h16 : L ≤ 1600) (hL : gI M 2 = nI L) (hp : p ≤ L) (h5 : gI M 5 = nI p) :
    okP (fX12_ahead n0 M) (fun M' => (∃ s e, SkB (gA M 1) L p s ∧ TokY (gA M 1) L s e M') ∧ FrA M M') := by
  unfold fX12_ahead
  refine okP_bnd ?_
  unfold fX12_ahead_5
  rw [h5]
  refine yskip h16 hL n0 p hp (by omega) (fun s hs => ?_)
  have hsl := hs.2.1
  unfold fX12_ahead_41
  refine okP_bnd (okP_bnd (okP_bnd (okP_bnd ?_)))
  have hF : FrA M (sI (sI (sI (sI M 4 (nI s)) 5 (nI s)) 3 0) 12 (-1)) := (((FrA.r.i (by decide)).i (by decide)).i (by decide)).i (by decide)
  have b2 : gI (sI (sI (sI (sI M 4 (nI s)) 5 (nI s)) 3 0) 12 (-1)) 2 = nI L := by rw [hF.1 2 (by omega)]; exact hL
  have b1 : gA (sI (sI (sI (sI M 4 (nI s)) 5 (nI s)) 3 0) 12 (-1)) 1 = gA M 1 := hF.2.1 1 id
  have b4 : gI (sI (sI (sI (sI M 4 (nI s)) 5 (nI s)) 3 0) 12 (-1)) 4 = nI s := by simp [gI_sI]
  have b5 : gI (sI (sI (sI (sI M 4 (nI s)) 5 (nI s)) 3 0) 12 (-1)) 5 = nI s := by simp [gI_sI]
  have b3 : gI (sI (sI (sI (sI M 4 (nI s)) 5 (nI s)) 3 0) 12 (-1)) 3 = 0 := by simp [gI_sI]
  have b12 : gI (sI (sI (sI (sI M 4 (nI s)) 5 (nI s)) 3 0) 12 (-1)) 12 = -1 := gI_at
  generalize sI (sI (sI (sI M 4 (nI s)) 5 (nI s)) 3 0) 12 (-1) = B at *
  rw [b2]
  by_cases hsL : s < L
  · refine okP_t (nI_lt hsL (by omega)) (okP_f (nI_in (by omega) (by decide)) (okP_be ylet (okP_f (nI_in (by omega) (by decide)) (okP_be ydig ?_))))
    show okP (if bI (isLt (gA B 1 (nI s).toNatClampNeg)) = 0 then if bI (isDg (gA B 1 (nI s).toNatClampNeg)) = 0 then fX12_ahead_135 n0 (nI s) (bI (isLt (gA B 1 (nI s).toNatClampNeg))) (bI (isDg (gA B 1 (nI s).toNatClampNeg))) B else fX12_ahead_98 n0 (nI s) (bI (isLt (gA B 1 (nI s).toNatClampNeg))) (bI (isDg (gA B 1 (nI s).toNatClampNeg))) B else fX12_ahead_98 n0 (nI s) (bI (isLt (gA B 1 (nI s).toNatClampNeg))) (bI (isDg (gA B 1 (nI s).toNatClampNeg))) B) _
    rw [nI_clamp (by omega), b1]
    by_cases hl : isLt (gA M 1 s)
    · have hd := lt_dg hl
      rw [bI_t hl, bI_f hd]
      refine okP_f i10 (y98 (by omega) b1 (fun hA => ?_) (fun hA => ?_))
      · refine okP_mono (y135w (a := nI s) hn h16 (by rw [gI_ne (by decide)]; exact b2) (by exact b1) hsL hl (by rw [gI_ne (by decide)]; exact b4) gI_at) ?_
        intro M' ⟨e, h1, h2, h3, h4', h5', h6, h7, h8⟩
        rw [lxA_s (by omega)] at h7
        exact ⟨⟨s, e, hs, h3, h4', by omega, h2.2.1, Or.inr (Or.inr (Or.inl ⟨hsL, h1, h2, hl, h5', Or.inl ⟨hA, h7⟩⟩))⟩, (hF.i (Or.inr rfl)).tr h8⟩
      · refine okP_mono (y135w (a := -1) hn h16 b2 b1 hsL hl b4 b12) ?_
        intro M' ⟨e, h1, h2, h3, h4', h5', h6, h7, h8⟩
        refine ⟨⟨s, e, hs, h3, h4', by omega, h2.2.1, Or.inr (Or.inr (Or.inl ⟨hsL, h1, h2, hl, h5', Or.inr ?_⟩))⟩, hF.tr h8⟩
        unfold lxA at h7
        rw [if_pos rfl] at h7
        by_cases g : 6 < e - s
        · rw [if_pos g] at h7
          exact Or.inl ⟨hA, g, h7⟩
        · rw [if_neg g] at h7
          rw [show min (e - s) 6 = e - s by omega] at h6
          exact Or.inr ⟨hA, by omega, h7, h6⟩
    · by_cases hd : isDg (gA M 1 s)
      · rw [bI_f hl, bI_t hd]
        refine okP_t rfl (okP_f i10 (y98 (by omega) b1 (fun hA => ?_) (fun hA => ?_)))
        · refine okP_mono (y135n (a := nI s) hn h16 (by rw [gI_ne (by decide)]; exact b2) (by exact b1) hsL hd (by rw [gI_ne (by decide)]; exact b4) gI_at) ?_
          intro M' ⟨e, h1, h2, h3, h4', h5', h6, h7, h8⟩
          rw [lxA_s (by omega)] at h7
          exact ⟨⟨s, e, hs, h3, h4', by omega, h2.2.1, Or.inr (Or.inr (Or.inr ⟨hsL, h1, h2, hd, h5', Or.inl ⟨hA, h7⟩⟩))⟩, (hF.i (Or.inr rfl)).tr h8⟩
        · refine okP_mono (y135n (a := -1) hn h16 b2 b1 hsL hd b4 b12) ?_
          intro M' ⟨e, h1, h2, h3, h4', h5', h6, h7, h8⟩
          refine ⟨⟨s, e, hs, h3, h4', by omega, h2.2.1, Or.inr (Or.inr (Or.inr ⟨hsL, h1, h2, hd, h5', Or.inr ?_⟩))⟩, hF.tr h8⟩
          unfold lxA at h7
          rw [if_pos rfl] at h7
          by_cases g : 4 < e - s
          · rw [if_pos g] at h7
            exact Or.inl ⟨hA, g, h7⟩
          · rw [if_neg g] at h7
            exact Or.inr ⟨hA, by omega, h7, h6⟩
      · rw [bI_f hl, bI_f hd]
        refine okP_t rfl (okP_t rfl ?_)
        unfold fX12_ahead_135
        refine okP_bnd (okP_bnd (okP_bnd (okP_bnd (okP_t rfl (okP_t rfl (okP_f (nI_in (by omega) (by decide)) (okP_some ⟨⟨s, s + 1, hs, ?_⟩, ?_⟩)))))))
        · refine ⟨by simp [gI_sI, gI_sL, b4], by simp [gI_sI, nI_1], by omega, by omega, Or.inr (Or.inl ⟨hsL, rfl, hl, hd, by simp [gI_sI], ?_, by simp [gI_sI, gI_sL, b12]⟩)⟩
          rw [gI_at, nI_clamp (by omega)]
          show gA B 1 s = _
          rw [b1]
        · exact hF.tr (((((FrA.r.i (by decide)).l).i (by decide)).i (by decide)).i (by decide))
  · refine okP_f (nI_nlt (by omega) (by omega)) (okP_some ⟨⟨s, s, hs, b4, b5, by omega, by omega, Or.inl ⟨by omega, rfl, b3, b12⟩⟩, hF⟩)
end
section
/-! WORDS: two codes of one word; the token of both sides -/
theorem e27_inj {f g : Nat → Nat} : ∀ {k : Nat}, (∀ i, i < k → f i ≤ 26 ∧ g i ≤ 26) → e27 f k = e27 g k → ∀ i, i < k → f i = g i
  | 0, _, _, i, hi => by omega
  | k + 1, h, e, i, hi => by
    have h1 := h k (by omega)
    rw [e27, e27] at e
    have h2 : e27 f k = e27 g k := by omega
    by_cases q : i = k
    · rw [q]; omega
    · exact e27_inj (fun j hj => h j (by omega)) h2 i (by omega)
theorem e256_inj {f g : Nat → Nat} : ∀ {n m : Nat}, (∀ i, i < n → f i ≤ 26) → (∀ i, i < m → g i ≤ 26) → e256 f n = e256 g m → n = m ∧ ∀ i, i < n → f i = g i
  | 0, 0, _, _, _ => ⟨rfl, fun i hi => by omega⟩
  | 0, m + 1, _, _, e => by rw [e256, e256] at e; omega
  | n + 1, 0, _, _, e => by rw [e256, e256] at e; omega
  | n + 1, m + 1, h1, h2, e => by
    have a := h1 n (by omega)
    have b := h2 m (by omega)
    rw [e256, e256] at e
    obtain ⟨q, r⟩ := e256_inj (f := f) (g := g) (n := n) (m := m) (fun i hi => h1 i (by omega)) (fun i hi => h2 i (by omega)) (by omega)
    subst q
    refine ⟨rfl, fun i hi => ?_⟩
    by_cases q : i = n
    · rw [q]; omega
    · exact r i (by omega)
theorem e27_congr {f g : Nat → Nat} : ∀ {n : Nat}, (∀ i, i < n → f i = g i) → e27 f n = e27 g n
  | 0, _ => rfl
  | n + 1, h => by rw [e27, e27, e27_congr (fun i hi => h i (by omega)), h n (by omega)]
theorem e256_congr {f g : Nat → Nat} : ∀ {n : Nat}, (∀ i, i < n → f i = g i) → e256 f n = e256 g n
  | 0, _ => rfl
  | n + 1, h => by rw [e256, e256, e256_congr (fun i hi => h i (by omega)), h n (by omega)]
theorem e27_pad {f : Nat → Nat} {n : Nat} : ∀ (j : Nat), e27 (fun i => if i < n then f i else 0) (n + j) = e27 f n * 27 ^ j
  | 0 => by
    rw [Nat.add_zero, Nat.pow_zero, Nat.mul_one]
    exact e27_congr (fun i hi => if_pos hi)
  | j + 1 => by
    show 27 * e27 _ (n + j) + (if n + j < n then f (n + j) else 0) = _
    rw [e27_pad j, if_neg (by omega), Nat.pow_succ, Nat.add_zero, Nat.mul_comm 27, Nat.mul_assoc]
def WR (v w : Nat) : Prop := ∃ f : Nat → Nat, ∃ n, 1 ≤ n ∧ n ≤ 6 ∧ (∀ i, i < n → 1 ≤ f i ∧ f i ≤ 26) ∧ v = e27 f n * 27 ^ (6 - n) ∧ w = e256 f n
theorem WR.iff {v w v' w' : Nat} (h : WR v w) (h' : WR v' w') : v = v' ↔ w = w' := by
  obtain ⟨f, n, n1, n6, hf, rfl, rfl⟩ := h
  obtain ⟨g, m, m1, m6, hg, rfl, rfl⟩ := h'
  constructor
  · intro e
    rw [← e27_pad, ← e27_pad, show n + (6 - n) = 6 by omega, show m + (6 - m) = 6 by omega] at e
    have q := e27_inj (fun i _ => ⟨by
      show (if i < n then f i else 0) ≤ 26
      by_cases h : i < n
      · rw [if_pos h]; exact (hf i h).2
      · rw [if_neg h]; omega, by
      show (if i < m then g i else 0) ≤ 26
      by_cases h : i < m
      · rw [if_pos h]; exact (hg i h).2
      · rw [if_neg h]; omega⟩) e
    have hnm : n = m := by
      rcases Nat.lt_trichotomy n m with h | h | h
      · have := q n (by omega)
        simp only [Nat.lt_irrefl, if_false, h, if_true] at this
        have := (hg n h).1
        omega
      · exact h
      · have := q m (by omega)
        simp only [Nat.lt_irrefl, if_false, h, if_true] at this
        have := (hf m h).1
        omega
    subst hnm
    refine e256_congr (fun i hi => ?_)
    have := q i (by omega)
    simp only [hi, if_true] at this
    exact this
  · intro e
    obtain ⟨rfl, q⟩ := e256_inj (fun i hi => (hf i hi).2) (fun i hi => (hg i hi).2) e
    rw [e27_congr q]
theorem WR.v_lt {v w : Nat} (h : WR v w) : v < 2 ^ 31 := by
  obtain ⟨f, n, n1, n6, hf, rfl, rfl⟩ := h
  have h1 : e27 f n < 27 ^ n := e27_lt (fun i hi => (hf i hi).2)
  have h2 : 27 ^ n * 27 ^ (6 - n) = 27 ^ 6 := by rw [← Nat.pow_add]; congr 1; omega
  have h3 : 0 < 27 ^ (6 - n) := Nat.pow_pos (by decide)
  have h4 := (Nat.mul_lt_mul_right h3).mpr h1
  rw [h2] at h4
  exact Nat.lt_trans h4 (by decide)
theorem WR.w_lt {v w : Nat} (h : WR v w) : w < 2 ^ 48 := by
  obtain ⟨f, n, n1, n6, hf, rfl, rfl⟩ := h
  have h1 : e256 f n < 256 ^ n := e256_lt (fun i hi => (hf i hi).2)
  exact Nat.lt_of_lt_of_le h1 (show 256 ^ n ≤ 256 ^ 6 from Nat.pow_le_pow_right (by decide) n6)
theorem WR.nI {v w v' w' : Nat} (h : WR v w) (h' : WR v' w') : nI v = nI v' ↔ lN w = lN w' := by
  rw [nI_eq h.v_lt h'.v_lt, pk_lEQ (Nat.lt_trans h.w_lt (by decide)) (Nat.lt_trans h'.w_lt (by decide))]
  exact h.iff h'
def ownLs : List Nat := [499967946343, 512802514792, 465491424371, 109330312357234, 1919902052, 29807, 495874044019, 1885432941, 6840691, 431365910119, 24948, 1752135026, 1935767923, 1735356005, 1885434739, 1751477348, 120299592184933, 435627783289, 26982, 28530, 6385252, 7237492, 6384748, 7170414, 7168376]
def ownL (i : Nat) : Nat := ownLs.getD i 0
def ownWs : List (List Nat) := [[20, 8, 9, 14, 7], [23, 5, 9, 7, 8], [12, 1, 19, 20, 19], [3, 15, 18, 14, 5, 18], [18, 15, 1, 4], [20, 15], [19, 20, 5, 16, 19], [16, 1, 12, 13], [8, 1, 19], [4, 15, 9, 14, 7], [1, 20], [8, 15, 21, 18], [19, 1, 25, 19], [7, 15, 14, 5], [16, 1, 19, 19], [8, 5, 12, 4], [13, 9, 14, 21, 20, 5], [5, 13, 16, 20, 25], [9, 6], [15, 18], [1, 14, 4], [14, 15, 20], [1, 12, 12], [13, 9, 14], [13, 1, 24]]
def ownW (i j : Nat) : Nat := (ownWs.getD i []).getD j 0
theorem own_ok : ∀ i, i < 25 → 1 ≤ (ownWs.getD i []).length ∧ (ownWs.getD i []).length ≤ 6 ∧ (∀ j, j < (ownWs.getD i []).length → 1 ≤ ownW i j ∧ ownW i j ≤ 26) ∧ ownC i = e27 (ownW i) (ownWs.getD i []).length * 27 ^ (6 - (ownWs.getD i []).length) ∧ ownL i = e256 (ownW i) (ownWs.getD i []).length := by decide +kernel
theorem own_WR {i : Nat} (hi : i < 25) : WR (ownC i) (ownL i) := ⟨ownW i, (ownWs.getD i []).length, own_ok i hi⟩
theorem cmp0 {x y : Int64} : lg_cmp x y = 0 ↔ x = y := lg_cmp_eq x y
/-- the text of both sides -/
def Lex0 (L : Nat) (MX MY : Mem) : Prop := gI MX 641 = nI L ∧ gI MY 2 = nI L ∧ L ≤ 1600 ∧ gA MY 1 = gA MX 6 ∧ Byt (gA MX 6) L ∧ ∀ i, i < 25 → gA MX 4 i = nI (ownC i)
def KR (kd pl va sg lx vy : Int32) (wd : Int64) (L s : Nat) : Prop :=
  (kd = 259 ∧ s = L ∧ sg = 0 ∧ lx = -1 ∧ pl = nI s)
  ∨ (kd = 258 ∧ s < L ∧ (sg = 1 ∨ sg = 2) ∧ ∃ q, q < L ∧ pl = nI q ∧ lx = nI q)
  ∨ (kd = 256 ∧ s < L ∧ sg = 2 ∧ lx = -1 ∧ pl = nI s ∧ ∃ v, v ≤ 9999 ∧ va = nI v ∧ vy = nI v)
  ∨ ((0 ≤ kd ∧ kd ≤ 255) ∧ s < L ∧ sg = 3 ∧ lx = -1 ∧ pl = nI s ∧ vy = kd)
  ∨ (s < L ∧ sg = 1 ∧ lx = -1 ∧ pl = nI s ∧ ∃ v w k, WR v w ∧ kdOf v k ∧ kd = nI k ∧ va = nI v ∧ wd = lN w)
/-- where the next token begins behind this one -/
def Beh (L s : Nat) (MX MY : Mem) : Prop := ∃ e, gI MX 390 = nI e ∧ gI MY 5 = nI e ∧ s ≤ e ∧ e ≤ L ∧ (s < L → s < e ∧ ((256 ≤ gI MX 386 ∧ ¬ gI MX 386 = 259) ↔ adj (gA MX 6) e) ∧ (gI MX 386 = 281 → s + 3 ≤ e))
def TokR (L s : Nat) (MX MY : Mem) : Prop := gI MX 387 = nI s ∧ gI MY 4 = nI s ∧ s ≤ L ∧ Beh L s MX MY ∧ KR (gI MX 386) (gI MX 388) (gI MX 389) (gI MY 3) (gI MY 12) (gI MY 6) (gL MY 7) L s
theorem e10_le {f : Nat → Nat} : ∀ {n : Nat}, (∀ i, i < n → f i ≤ 9) → e10 f n < 10 ^ n
  | 0, _ => Nat.lt_of_sub_eq_succ rfl
  | n + 1, h => by
    have h1 := e10_le (f := f) (n := n) (fun i hi => h i (by omega))
    have h2 := h n (by omega)
    rw [e10, Nat.pow_succ]
    omega
theorem V10_le {t : Nat → Int32} {L s e : Nat} (h : RnB isDg t L s e) : V10 t s e ≤ 9999 := by
  unfold V10
  have h1 : e10 (fD t s) (min (e - s) 4) < 10 ^ (min (e - s) 4) := e10_le (fun i hi => (isDg_v (h.2.2.1 (s + i) (by omega) (by omega))).1)
  have h2 : 10 ^ (min (e - s) 4) ≤ 10 ^ 4 := Nat.pow_le_pow_right (by decide) (by omega)
  omega
theorem adj_run {P : Int32 → Prop} {t : Nat → Int32} {L s e : Nat} (h : RnB P t L s e) (hs : s < e) (hP : ∀ x, P x → isLt x ∨ isDg x) : adj t e := ⟨by omega, hP _ (h.2.2.1 (e - 1) (by omega) (by omega))⟩
theorem V27_not {t : Nat → Int32} {s e : Nat} (h : V27 t s e = ownC 21) (h6 : e - s ≤ 6) : 3 ≤ e - s := by
  rcases Nat.lt_or_ge (e - s) 3 with q | q
  · have h2 : V27 t s e = e27 (fL t s) (e - s) * 27 ^ (2 - (e - s)) * 531441 := by
      unfold V27
      rw [Nat.mul_assoc, show 531441 = 27 ^ 4 from rfl, ← Nat.pow_add, show 2 - (e - s) + 4 = 6 - (e - s) by omega]
    have h3 : ownC 21 % 531441 = 393660 := by decide
    rw [← h, h2, Nat.mul_mod_left] at h3
    omega
  · exact q
theorem adv2 {n0 L p : Nat} {MX MY : Mem} (hn : 1601 ≤ n0) (h0 : Lex0 L MX MY) (hp : p ≤ L) (hx : gI MX 390 = nI p) (hy : gI MY 5 = nI p) (hB : (256 ≤ gI MX 386 ∧ ¬ gI MX 386 = 259) ↔ adj (gA MX 6) p) :
    ∃ MX' MY' s, fX8_advance n0 MX = some MX' ∧ fX12_ahead n0 MY = some MY' ∧ p ≤ s ∧ TokR L s MX' MY' ∧ FI 386 390 MX MX' ∧ FrA MY MY' := by
  obtain ⟨hLX, hLY, h16, hT, hby, hO⟩ := h0
  obtain ⟨MX', ex, ⟨s, e, hs, hX⟩, fx⟩ := xadvance hn h16 hLX hp hx hB hby hO
  obtain ⟨MY', ey, ⟨s', e', hs', hY⟩, fy⟩ := yahead hn h16 hLY hp hy
  rw [hT] at hs' hY
  obtain rfl := hs.uniq hs'
  refine ⟨MX', MY', s, ex, ey, hs.1, ?_, fx, fy⟩
  obtain ⟨x1, x2, x3, x4, x5⟩ := hX
  obtain ⟨y1, y2, y3, y4, y5⟩ := hY
  have hA6 : gA MX' 6 = gA MX 6 := by rw [fx.A]
  rcases x5 with ⟨a1, a2, a3, a4⟩ | ⟨a1, a2, a3, a4, a5, a6⟩ | ⟨a1, a2, a3, a4, a5⟩ | ⟨a1, a2, a3, a4, a5⟩
  · rcases y5 with ⟨b1, b2, b3, b4⟩ | ⟨b1, _⟩ | ⟨b1, _⟩ | ⟨b1, _⟩
    · obtain rfl : e = e' := by omega
      exact ⟨x1, y1, by omega, ⟨e, x2, y2, x3, x4, fun h => by omega⟩, Or.inl ⟨a3, a1, b3, b4, a4⟩⟩
    · omega
    · omega
    · omega
  · rcases y5 with ⟨b1, b2, b3, b4⟩ | ⟨b1, b2, b3, b4, b5, b6, b7⟩ | ⟨b1, b2, b3, b4, b5⟩ | ⟨b1, b2, b3, b4, b5⟩
    · omega
    · obtain rfl : e = e' := by omega
      have hb := hby s a1
      refine ⟨x1, y1, by omega, ⟨e, x2, y2, x3, x4, fun h => ⟨by omega, ?_, fun g => ?_⟩⟩, Or.inr (Or.inr (Or.inr (Or.inl ⟨by rw [a5]; exact hb, a1, b5, b7, a6, by rw [b6, a5]⟩)))⟩
      rotate_left
      · rw [a5] at g
        have := hb.2
        rw [g] at this
        exact absurd this (by decide)
      rw [a5, hA6]
      refine ⟨fun g => absurd g (byt_sign hb), fun g => ?_⟩
      have := g.2
      rw [a2, Nat.add_sub_cancel] at this
      rcases this with q | q
      · exact absurd q a3
      · exact absurd q a4
    · exact absurd b4 a3
    · exact absurd b4 a4
  · rcases y5 with ⟨b1, b2, b3, b4⟩ | ⟨b1, b2, b3, b4, b5, b6, b7⟩ | ⟨b1, b2, b3, b4, b5, b6⟩ | ⟨b1, b2, b3, b4, b5⟩
    · omega
    · exact absurd a4 b3
    · obtain rfl := a3.uniq b3
      have hadj : adj (gA MX 6) e := adj_run a3 a2 (fun _ => Or.inl)
      have mk : (256 ≤ gI MX' 386 ∧ ¬ gI MX' 386 = 259) → (gI MX' 386 = 281 → s + 3 ≤ e) → Beh L s MX' MY' := fun g g3 => ⟨e, x2, y2, x3, x4, fun _ => ⟨a2, by rw [hA6]; exact ⟨fun _ => hadj, fun _ => g⟩, g3⟩⟩
      rcases a5 with ⟨c1, c2, c3⟩ | ⟨c1, c2, c3, c4⟩ | ⟨c1, c2, c3, c4, k, ck, c5⟩
      · rcases b6 with ⟨d1, d2⟩ | ⟨d1, _⟩ | ⟨d1, _⟩
        · exact ⟨x1, y1, by omega, mk (by rw [c2]; exact i258) (fun g => by rw [c2] at g; exact absurd g (by decide)), Or.inr (Or.inl ⟨c2, a1, Or.inl b5, s, a1, c3, d2⟩)⟩
        · exact absurd c1 d1
        · exact absurd c1 d1
      · rcases b6 with ⟨d1, d2⟩ | ⟨d1, d2, d3⟩ | ⟨d1, d2, d3⟩
        · exact absurd d1 c1
        · exact ⟨x1, y1, by omega, mk (by rw [c3]; exact i258) (fun g => by rw [c3] at g; exact absurd g (by decide)), Or.inr (Or.inl ⟨c3, a1, Or.inl b5, s + 6, by omega, c4, d3⟩)⟩
        · omega
      · rcases b6 with ⟨d1, d2⟩ | ⟨d1, d2, d3⟩ | ⟨d1, d2, d3, d4⟩
        · exact absurd d1 c1
        · omega
        · refine ⟨x1, y1, by omega, mk (by rw [c5]; exact kdOf_w ck) (fun g => by
          rw [c5] at g
          have g2 := (nI_eq (a := k) (b := 281) (by rcases ck.1 with q | q <;> omega) (by decide)).mp g
          have := V27_not ((ck.2 21 (by decide)).mp g2) c2
          omega), Or.inr (Or.inr (Or.inr (Or.inr ⟨a1, b5, d3, c3, V27 (gA MX 6) s e, e256 (fL (gA MX 6) s) (e - s), k, ?_, ck, c5, c4, d4⟩)))⟩
          exact ⟨fL (gA MX 6) s, e - s, by omega, c2, fun i hi => by
            have := isLt_v (a3.2.2.1 (s + i) (by omega) (by omega))
            exact ⟨this.1, this.2.1⟩, rfl, rfl⟩
    · exact absurd b4 (lt_dg a4)
  · rcases y5 with ⟨b1, b2, b3, b4⟩ | ⟨b1, b2, b3, b4, b5, b6, b7⟩ | ⟨b1, b2, b3, b4, b5, b6⟩ | ⟨b1, b2, b3, b4, b5, b6⟩
    · omega
    · exact absurd a4 b4
    · exact absurd a4 (lt_dg b4)
    · obtain rfl := a3.uniq b3
      have hadj : adj (gA MX 6) e := adj_run a3 a2 (fun _ => Or.inr)
      have mk : (256 ≤ gI MX' 386 ∧ ¬ gI MX' 386 = 259) → (gI MX' 386 = 281 → s + 3 ≤ e) → Beh L s MX' MY' := fun g g3 => ⟨e, x2, y2, x3, x4, fun _ => ⟨a2, by rw [hA6]; exact ⟨fun _ => hadj, fun _ => g⟩, g3⟩⟩
      rcases a5 with ⟨c1, c2, c3⟩ | ⟨c1, c2, c3, c4⟩ | ⟨c1, c2, c3, c4, c5⟩
      · rcases b6 with ⟨d1, d2⟩ | ⟨d1, _⟩ | ⟨d1, _⟩
        · exact ⟨x1, y1, by omega, mk (by rw [c2]; exact i258) (fun g => by rw [c2] at g; exact absurd g (by decide)), Or.inr (Or.inl ⟨c2, a1, Or.inr b5, s, a1, c3, d2⟩)⟩
        · exact absurd c1 d1
        · exact absurd c1 d1
      · rcases b6 with ⟨d1, d2⟩ | ⟨d1, d2, d3⟩ | ⟨d1, d2, d3⟩
        · exact absurd d1 c1
        · exact ⟨x1, y1, by omega, mk (by rw [c3]; exact i258) (fun g => by rw [c3] at g; exact absurd g (by decide)), Or.inr (Or.inl ⟨c3, a1, Or.inr b5, s + 4, by omega, c4, d3⟩)⟩
        · omega
      · rcases b6 with ⟨d1, d2⟩ | ⟨d1, d2, d3⟩ | ⟨d1, d2, d3, d4⟩
        · exact absurd d1 c1
        · omega
        · exact ⟨x1, y1, by omega, mk (by rw [c5]; exact i256) (fun g => by rw [c5] at g; exact absurd g (by decide)), Or.inr (Or.inr (Or.inl ⟨c5, a1, b5, d3, c3, V10 (gA MX 6) s e, V10_le a3, c4, d4⟩))⟩
end
section
/-! STEPS OF BOTH READERS: the state of reading, faults, tests of the token, skip and must, numbers -/
def FrY : Mem → Mem → Prop := Frm (fun j => (3 ≤ j ∧ j ≤ 6) ∨ j = 8 ∨ j = 9 ∨ j = 12) noN (fun j => j = 7) noN
theorem FrY.r {M : Mem} : FrY M M := Frm.r
theorem FrY.i {M M' : Mem} {k : Nat} {v : Int32} (h : FrY M M') (hk : (3 ≤ k ∧ k ≤ 6) ∨ k = 8 ∨ k = 9 ∨ k = 12) : FrY M (sI M' k v) := Frm.sI h hk
theorem FrY.tr {M M' M2 : Mem} (h : FrY M M') (h2 : FrY M' M2) : FrY M M2 := Frm.tr h h2
theorem FrA.Y {M M' : Mem} (h : FrA M M') : FrY M M' := Frm.wk h (fun k hk => by omega) (fun _ h => h) (fun _ h => h) (fun _ h => h)
theorem FI.wk {a b a' b' : Nat} {M M' : Mem} (h : FI a b M M') (h1 : a' ≤ a) (h2 : b ≤ b') : FI a' b' M M' := ⟨h.1, fun j hj => h.2 j (by omega)⟩
def PR (L s : Nat) (MX MY : Mem) : Prop := Lex0 L MX MY ∧ TokR L s MX MY ∧ gI MX 391 = 0 ∧ gI MX 392 = -1 ∧ gI MY 8 = 0 ∧ gI MY 9 = -1
def Flt (MX MY : Mem) : Prop := ∃ k, 1 ≤ k ∧ k ≤ 6 ∧ gI MX 391 = nI k ∧ gI MY 8 = nI k ∧ gI MY 9 = gI MX 392
theorem Flt.mk {k : Nat} {p : Int32} {MX MY : Mem} (h1 : 1 ≤ k) (h6 : k ≤ 6) : Flt (sI (sI MX 391 (nI k)) 392 p) (sI (sI MY 8 (nI k)) 9 p) := ⟨k, h1, h6, by rw [gI_ne (by decide), gI_at], by rw [gI_ne (by decide), gI_at], by rw [gI_at, gI_at]⟩
theorem Flt.pos {MX MY : Mem} (h : Flt MX MY) : ¬ gI MY 8 ≤ 0 := by
  obtain ⟨k, h1, h6, _, e, _⟩ := h
  rw [e]
  exact nI_nle h1 (by omega)
theorem pos_ne {x : Int32} (h : ¬ x ≤ 0) : ¬ x = 0 := fun e => h (by rw [e]; decide)
theorem PR.cong {L s : Nat} {MX MY MX' MY' : Mem} (h : PR L s MX MY) (h1 : ∀ j, 386 ≤ j → j ≤ 392 → gI MX' j = gI MX j) (h2 : gI MX' 641 = gI MX 641) (h3 : gA MX' 4 = gA MX 4) (h4 : gA MX' 6 = gA MX 6) (h5 : ∀ j, j ≤ 12 → gI MY' j = gI MY j) (h6 : gL MY' 7 = gL MY 7) (h7 : gA MY' 1 = gA MY 1) : PR L s MX' MY' := by
  unfold PR Lex0 TokR Beh at h ⊢
  rw [h2, h3, h4, h6, h7, h1 386 (by decide) (by decide), h1 387 (by decide) (by decide), h1 388 (by decide) (by decide), h1 389 (by decide) (by decide), h1 390 (by decide) (by decide), h1 391 (by decide) (by decide), h1 392 (by decide) (by decide), h5 2 (by decide), h5 3 (by decide), h5 4 (by decide), h5 5 (by decide), h5 6 (by decide), h5 8 (by decide), h5 9 (by decide), h5 12 (by decide)]
  exact h
theorem PR.adv3 {n0 L s : Nat} {MX MY : Mem} (hn : 1601 ≤ n0) (h : PR L s MX MY) (hs : s < L) : ∃ MX' MY' s', fX8_advance n0 MX = some MX' ∧ fX12_ahead n0 MY = some MY' ∧ s < s' ∧ PR L s' MX' MY' ∧ FI 386 390 MX MX' ∧ FrA MY MY' ∧ (gI MX 386 = 281 → s + 3 ≤ s') := by
  obtain ⟨h0, hT, f1, f2, f3, f4⟩ := h
  obtain ⟨t1, t2, t3, ⟨e, b1, b2, b3, b4, b5⟩, t5⟩ := hT
  obtain ⟨b6, b7, b8⟩ := b5 hs
  obtain ⟨MX', MY', s', ex, ey, hps, hT', fx, fy⟩ := adv2 hn h0 b4 b1 b2 b7
  refine ⟨MX', MY', s', ex, ey, by omega, ⟨?_, hT', ?_, ?_, ?_, ?_⟩, fx, fy, fun g => by have := b8 g; omega⟩
  · obtain ⟨c1, c2, c3, c4, c5, c6⟩ := h0
    refine ⟨(fx.2 641 (by omega)).trans c1, (fy.1 2 (by omega)).trans c2, c3, ?_, ?_, ?_⟩
    · rw [fy.2.1 1 id, fx.A]; exact c4
    · rw [fx.A]; exact c5
    · rw [fx.A]; exact c6
  · exact (fx.2 391 (by omega)).trans f1
  · exact (fx.2 392 (by omega)).trans f2
  · exact (fy.1 8 (by omega)).trans f3
  · exact (fy.1 9 (by omega)).trans f4
theorem PR.adv {n0 L s : Nat} {MX MY : Mem} (hn : 1601 ≤ n0) (h : PR L s MX MY) (hs : s < L) : ∃ MX' MY' s', fX8_advance n0 MX = some MX' ∧ fX12_ahead n0 MY = some MY' ∧ s < s' ∧ PR L s' MX' MY' ∧ FI 386 390 MX MX' ∧ FrA MY MY' := by
  obtain ⟨a, b, c, h1, h2, h3, h4, h5, h6, -⟩ := h.adv3 hn hs
  exact ⟨a, b, c, h1, h2, h3, h4, h5, h6⟩
-- faults
theorem xfail {n0 : Nat} {k p : Int32} {M : Mem} : fX8_fail n0 k p M = some (0, sI (sI M 391 k) 392 p) := rfl
theorem eq_b {α β : Type} {o : Option α} {k : α → Option β} {z : α} {r : Option β} (e : o = some z) (h : k z = r) : o.bind k = r := by rw [e]; exact h
theorem eq_t {ρ : Type} {c : Prop} [Decidable c] {a b r : ρ} (h : c) (h1 : a = r) : (if c then a else b) = r := by rw [if_pos h]; exact h1
theorem eq_f {ρ : Type} {c : Prop} [Decidable c] {a b r : ρ} (h : ¬ c) (h1 : b = r) : (if c then a else b) = r := by rw [if_neg h]; exact h1
theorem eq_n {α β : Type} {v : α} {k : α → Option β} {r : Option β} (h : k v = r) : bnd v k = r := h
theorem xfailH {n0 : Nat} {M : Mem} : fX8_failHere n0 M = some (0, sI (sI M 391 1) 392 (gI M 388)) := by
  unfold fX8_failHere
  exact eq_b xfail (eq_t (Or.inl rfl) rfl)
theorem yblame0 {n0 : Nat} {k p : Int32} {M : Mem} (h : gI M 8 = 0) : fX12_blame n0 k p M = some (sI (sI M 8 k) 9 p) := by
  unfold fX12_blame
  rw [h, if_pos (by decide)]
  rfl
theorem yblame1 {n0 : Nat} {k p : Int32} {M : Mem} (h : ¬ gI M 8 ≤ 0) : fX12_blame n0 k p M = some M := by
  unfold fX12_blame
  rw [if_neg h]
theorem ylexF {n0 : Nat} {M : Mem} (h : ¬ gI M 8 ≤ 0) : fX12_lex n0 M = some M := by
  unfold fX12_lex
  rw [yblame1 h]
  by_cases e : gI M 12 = -1
  · rw [if_pos e]
  · rw [if_neg e]; rfl
theorem nI_m1 {q : Nat} (h : q < 2 ^ 31) : ¬ nI q = -1 := fun e => by
  have := nI_pos (n := q) h
  rw [e] at this
  exact this (by decide)
theorem KR.bad {kd pl va sg lx vy : Int32} {wd : Int64} {L s : Nat} (h : KR kd pl va sg lx vy wd L s) (hk : kd = 258) : s < L ∧ ∃ q, q < L ∧ pl = nI q ∧ lx = nI q := by
  rcases h with h | h | h | h | h
  · rw [hk] at h; exact absurd h.1 (by decide)
  · exact ⟨h.2.1, h.2.2.2⟩
  · rw [hk] at h; exact absurd h.1 (by decide)
  · rw [hk] at h; exact absurd h.1.2 (by decide)
  · obtain ⟨_, _, _, _, v, w, k, _, hd, e, _⟩ := h
    rw [hk] at e
    have := (nI_eq (a := 258) (b := k) (by decide) (by rcases hd.1 with q | q <;> omega)).mp e
    rcases hd.1 with q | q <;> omega
theorem KR.good {kd pl va sg lx vy : Int32} {wd : Int64} {L s : Nat} (h : KR kd pl va sg lx vy wd L s) (hk : ¬ kd = 258) : lx = -1 ∧ pl = nI s := by
  rcases h with h | h | h | h | h
  · exact ⟨h.2.2.2.1, h.2.2.2.2⟩
  · exact absurd h.1 hk
  · exact ⟨h.2.2.2.1, h.2.2.2.2.1⟩
  · exact ⟨h.2.2.2.1, h.2.2.2.2.1⟩
  · exact ⟨h.2.2.1, h.2.2.2.1⟩
theorem ylexB {n0 L s : Nat} {MX MY : Mem} (h : PR L s MX MY) (hk : gI MX 386 = 258) : fX12_lex n0 MY = some (sI (sI MY 8 1) 9 (gI MX 388)) := by
  obtain ⟨h0, hT, _, _, f3, _⟩ := h
  obtain ⟨_, q, hq, e1, e2⟩ := hT.2.2.2.2.bad hk
  have := h0.2.2.1
  unfold fX12_lex
  rw [e2, if_neg (nI_m1 (by omega)), yblame0 f3, e1]
  rfl
theorem ylexG {n0 L s : Nat} {MX MY : Mem} (h : PR L s MX MY) (hk : ¬ gI MX 386 = 258) : fX12_lex n0 MY = some MY := by
  unfold fX12_lex
  rw [(h.2.1.2.2.2.2.good hk).1, if_pos rfl]
theorem PR.pl {L s : Nat} {MX MY : Mem} (h : PR L s MX MY) (hk : ¬ gI MX 386 = 258) : gI MX 388 = nI s := (h.2.1.2.2.2.2.good hk).2
theorem PR.at_ {L s : Nat} {MX MY : Mem} (h : PR L s MX MY) : gI MY 4 = nI s := h.2.1.2.1
theorem PR.st {L s : Nat} {MX MY : Mem} (h : PR L s MX MY) : gI MX 387 = nI s := h.2.1.1
theorem PR.f8 {L s : Nat} {MX MY : Mem} (h : PR L s MX MY) : gI MY 8 = 0 := h.2.2.2.2.1
theorem PR.L16 {L s : Nat} {MX MY : Mem} (h : PR L s MX MY) : L ≤ 1600 := h.1.2.2.1
theorem i00 : (0 : Int32) ≤ 0 := by decide
-- tests of the token
theorem KR.lt {kd pl va sg lx vy : Int32} {wd : Int64} {L s : Nat} (h : KR kd pl va sg lx vy wd L s) (hk : ¬ kd = 259) : s < L := by
  rcases h with h | h | h | h | h
  · exact absurd h.1 hk
  · exact h.2.1
  · exact h.2.1
  · exact h.2.1
  · exact h.1
theorem kdn {k : Nat} {v : Nat} (hd : kdOf v k) : ¬ (0 ≤ nI k ∧ nI k ≤ 255) := fun g => by
  have h1 : 257 ≤ k ∧ k ≤ 284 := by rcases hd.1 with q | q <;> omega
  have := (nI_leI (a := k) (b := 255) (by omega) (by decide)).mp g.2
  omega
theorem ySign {n0 L s : Nat} {MX MY : Mem} {c : Int32} (hc : 0 ≤ c ∧ c ≤ 255) (h : PR L s MX MY) : fX12_isSign n0 c MY = some (bI (gI MX 386 = c), MY) := by
  have hK := h.2.1.2.2.2.2
  unfold fX12_isSign
  have no : ¬ gI MY 3 = 3 → ¬ gI MX 386 = c → (if gI MY 3 = 3 then (if gI MY 6 = c then some ((1 : Int32), MY) else some (0, MY)) else some (0, MY)) = some (bI (gI MX 386 = c), MY) := fun a b => by rw [if_neg a, bI_f b]
  rcases hK with q | q | q | q | q
  · refine no (by rw [q.2.2.1]; decide) (fun e => ?_)
    rw [← e, q.1] at hc
    exact absurd hc.2 (by decide)
  · refine no (by rcases q.2.2.1 with g | g <;> rw [g] <;> decide) (fun e => ?_)
    rw [← e, q.1] at hc
    exact absurd hc.2 (by decide)
  · refine no (by rw [q.2.2.1]; decide) (fun e => ?_)
    rw [← e, q.1] at hc
    exact absurd hc.2 (by decide)
  · rw [if_pos q.2.2.1, q.2.2.2.2.2]
    by_cases e : gI MX 386 = c
    · rw [if_pos e, bI_t e]
    · rw [if_neg e, bI_f e]
  · refine no (by rw [q.2.1]; decide) (fun e => ?_)
    obtain ⟨_, _, _, _, v, w, k, _, hd, e1, _⟩ := q
    rw [← e, e1] at hc
    exact kdn hd hc
theorem yWord {n0 L s i : Nat} {MX MY : Mem} {y : Int64} {kk : Int32} (hi : i < 25) (hy : y = lN (ownL i)) (hk : kk = nI (260 + i)) (h : PR L s MX MY) (hb : ¬ gI MX 386 = 258) : fX12_isWord n0 y MY = some (bI (gI MX 386 = kk), MY) := by
  have hK := h.2.1.2.2.2.2
  subst hy hk
  unfold fX12_isWord
  have big : ¬ (nI (260 + i) = 259) ∧ ¬ (nI (260 + i) = 256) ∧ ¬ (nI (260 + i) ≤ 255) := ⟨fun e => by
    have := (nI_eq (a := 260 + i) (b := 259) (by omega) (by decide)).mp e
    omega, fun e => by
    have := (nI_eq (a := 260 + i) (b := 256) (by omega) (by decide)).mp e
    omega, fun e => by
    have := (nI_leI (a := 260 + i) (b := 255) (by omega) (by decide)).mp e
    omega⟩
  have no : ¬ gI MY 3 = 1 → ¬ gI MX 386 = nI (260 + i) → (if gI MY 3 = 1 then (if lg_cmp (gL MY 7) (lN (ownL i)) = 0 then some ((1 : Int32), MY) else some (0, MY)) else some (0, MY)) = some (bI (gI MX 386 = nI (260 + i)), MY) := fun a b => by rw [if_neg a, bI_f b]
  rcases hK with q | q | q | q | q
  · refine no (by rw [q.2.2.1]; decide) (fun e => ?_)
    rw [q.1] at e
    exact big.1 e.symm
  · exact absurd q.1 hb
  · refine no (by rw [q.2.2.1]; decide) (fun e => ?_)
    rw [q.1] at e
    exact big.2.1 e.symm
  · refine no (by rw [q.2.2.1]; decide) (fun e => ?_)
    have := q.1.2
    rw [e] at this
    exact big.2.2 this
  · obtain ⟨_, h3, _, _, v, w, k, hw, hd, e1, _, e3⟩ := q
    rw [if_pos h3, e3, e1]
    have hk2 : k < 2 ^ 31 := by rcases hd.1 with q | q <;> omega
    by_cases e : k = 260 + i
    · have hv := (hd.2 i hi).mp e
      rw [if_pos (cmp0.mpr ((pk_lEQ (Nat.lt_trans hw.w_lt (by decide)) (Nat.lt_trans (own_WR hi).w_lt (by decide))).mpr ((hw.iff (own_WR hi)).mp hv))), bI_t (by rw [e])]
    · rw [if_neg (fun g => e ((hd.2 i hi).mpr ((hw.iff (own_WR hi)).mpr ((pk_lEQ (Nat.lt_trans hw.w_lt (by decide)) (Nat.lt_trans (own_WR hi).w_lt (by decide))).mp (cmp0.mp g))))), bI_f (fun g => e ((nI_eq hk2 (by omega)).mp g))]
-- skip and must
def Out (L s : Nat) (MX MY : Mem) (FX FY : Mem → Mem → Prop) (rx : Option (Int32 × Mem)) (ry : Option Mem) : Prop :=
  (∃ MX' MY' s', rx = some (1, MX') ∧ ry = some MY' ∧ s < s' ∧ PR L s' MX' MY' ∧ FX MX MX' ∧ FY MY MY') ∨ (∃ MX' MY', rx = some (0, MX') ∧ ry = some MY' ∧ Flt MX' MY' ∧ FX MX MX' ∧ FY MY MY')
theorem FIf {M : Mem} {k p : Int32} : FI 386 392 M (sI (sI M 391 k) 392 p) := (FI.r.s (by decide) (by decide)).s (by decide) (by decide)
theorem FYf {M : Mem} {k p : Int32} : FrY M (sI (sI M 8 k) 9 p) := (FrY.r.i (by decide)).i (by decide)
theorem g8f {M : Mem} {k p : Int32} : gI (sI (sI M 8 k) 9 p) 8 = k := by rw [gI_ne (by decide), gI_at]
theorem bz {p : Prop} [Decidable p] (h : p) : ¬ bI p = 0 := fun q => bI_0.mp q h
theorem ymu {n0 : Nat} {M : Mem} (h : ¬ gI M 8 = 0) : fX12_must_21 n0 M = some M := by
  unfold fX12_must_21
  exact eq_f h rfl
theorem ymu2 {n0 : Nat} {M : Mem} (h : ¬ gI M 8 = 0) : fX12_must__29 n0 M = some M := by
  unfold fX12_must__29
  exact eq_f h rfl
theorem ySign2 {n0 : Nat} {c : Int32} {M : Mem} : fX12_isSign n0 c M = some (0, M) ∨ fX12_isSign n0 c M = some (1, M) := by
  unfold fX12_isSign
  by_cases g : gI M 3 = 3
  · by_cases g2 : gI M 6 = c
    · exact Or.inr (eq_t g (eq_t g2 rfl))
    · exact Or.inl (eq_t g (eq_f g2 rfl))
  · exact Or.inl (eq_f g rfl)
theorem ymustSF {n0 : Nat} {c : Int32} {M : Mem} (h : ¬ gI M 8 ≤ 0) : fX12_must n0 c M = some M := by
  unfold fX12_must
  refine eq_b (ylexF h) ?_
  rcases ySign2 (n0 := n0) (c := c) (M := M) with q | q
  · exact eq_b q (eq_t rfl (eq_b (yblame1 h) (ymu (pos_ne h))))
  · exact eq_b q (eq_f i10 (ymu (pos_ne h)))
theorem ymustF {n0 : Nat} {y : Int64} {M : Mem} (h : ¬ gI M 8 ≤ 0) : fX12_must_ n0 y M = some M := by
  unfold fX12_must_
  exact eq_b (ylexF h) (eq_f h rfl)
theorem n8f {M : Mem} {k : Nat} {p : Int32} (h1 : 1 ≤ k) (h6 : k ≤ 6) : ¬ gI (sI (sI M 8 (nI k)) 9 p) 8 ≤ 0 := by
  rw [g8f]
  exact nI_nle h1 (by omega)
theorem xskF {n0 : Nat} {c : Int32} {M : Mem} (hk : ¬ gI M 386 = c) : fX8_skip n0 c M = some (0, sI (sI M 391 1) 392 (gI M 388)) := by
  unfold fX8_skip
  exact eq_f hk (eq_b xfailH (eq_t (Or.inl rfl) rfl))
theorem skS {n0 L s : Nat} {MX MY : Mem} {c : Int32} (hn : 1601 ≤ n0) (hc : 0 ≤ c ∧ c ≤ 255) (h : PR L s MX MY) : Out L s MX MY (FI 386 392) FrY (fX8_skip n0 c MX) (fX12_must n0 c MY) := by
  by_cases hk : gI MX 386 = c
  · have h8 : ¬ gI MX 386 = 258 := fun e => by
      rw [← hk, e] at hc
      exact absurd hc.2 (by decide)
    have h9 : ¬ gI MX 386 = 259 := fun e => by
      rw [← hk, e] at hc
      exact absurd hc.2 (by decide)
    obtain ⟨MX', MY', s', ex, ey, hs, hP, fx, fy⟩ := h.adv hn (h.2.1.2.2.2.2.lt h9)
    refine Or.inl ⟨MX', MY', s', ?_, ?_, hs, hP, fx.wk (by decide) (by decide), fy.Y⟩
    · unfold fX8_skip
      exact eq_t hk (eq_b ex rfl)
    · unfold fX12_must
      refine eq_b (ylexG h h8) (eq_b (ySign hc h) (eq_f (bz hk) ?_))
      unfold fX12_must_21
      exact eq_t h.f8 (eq_b ey rfl)
  · refine Or.inr ⟨sI (sI MX 391 1) 392 (gI MX 388), sI (sI MY 8 1) 9 (gI MX 388), xskF hk, ?_, Flt.mk (k := 1) (by decide) (by decide), FIf, FYf⟩
    have h1 : ¬ gI (sI (sI MY 8 1) 9 (gI MX 388)) 8 ≤ 0 := n8f (k := 1) (by decide) (by decide)
    by_cases h8 : gI MX 386 = 258
    · unfold fX12_must
      refine eq_b (ylexB h h8) ?_
      rcases ySign2 (n0 := n0) (c := c) (M := sI (sI MY 8 1) 9 (gI MX 388)) with q | q
      · exact eq_b q (eq_t rfl (eq_b (yblame1 h1) (ymu (pos_ne h1))))
      · exact eq_b q (eq_f i10 (ymu (pos_ne h1)))
    · unfold fX12_must
      refine eq_b (ylexG h h8) (eq_b (ySign hc h) (eq_t (bI_f hk) (eq_b (yblame0 h.f8) ?_)))
      rw [show gI (bI (gI MX 386 = c), MY).2 4 = gI MX 388 from h.at_.trans (h.pl h8).symm]
      exact ymu (pos_ne h1)
theorem skW {n0 L s i : Nat} {MX MY : Mem} {y : Int64} {kk : Int32} (hn : 1601 ≤ n0) (hi : i < 25) (hy : y = lN (ownL i)) (hkk : kk = nI (260 + i)) (h : PR L s MX MY) : Out L s MX MY (FI 386 392) FrY (fX8_skip n0 kk MX) (fX12_must_ n0 y MY) := by
  by_cases hk : gI MX 386 = kk
  · have n258 : ¬ kk = 258 := fun e => by
      rw [hkk] at e
      have := (nI_eq (a := 260 + i) (b := 258) (by omega) (by decide)).mp e
      omega
    have n259 : ¬ kk = 259 := fun e => by
      rw [hkk] at e
      have := (nI_eq (a := 260 + i) (b := 259) (by omega) (by decide)).mp e
      omega
    have h8 : ¬ gI MX 386 = 258 := by rw [hk]; exact n258
    have h9 : ¬ gI MX 386 = 259 := by rw [hk]; exact n259
    obtain ⟨MX', MY', s', ex, ey, hs, hP, fx, fy⟩ := h.adv hn (h.2.1.2.2.2.2.lt h9)
    refine Or.inl ⟨MX', MY', s', ?_, ?_, hs, hP, fx.wk (by decide) (by decide), fy.Y⟩
    · unfold fX8_skip
      exact eq_t hk (eq_b ex rfl)
    · unfold fX12_must_
      refine eq_b (ylexG h h8) (eq_t (by rw [h.f8]; exact i00) (eq_b (yWord hi hy hkk h h8) (eq_f (bz hk) ?_)))
      unfold fX12_must__29
      exact eq_t h.f8 (eq_b ey rfl)
  · refine Or.inr ⟨sI (sI MX 391 1) 392 (gI MX 388), sI (sI MY 8 1) 9 (gI MX 388), xskF hk, ?_, Flt.mk (k := 1) (by decide) (by decide), FIf, FYf⟩
    have h1 : ¬ gI (sI (sI MY 8 1) 9 (gI MX 388)) 8 ≤ 0 := n8f (k := 1) (by decide) (by decide)
    unfold fX12_must_
    by_cases h8 : gI MX 386 = 258
    · exact eq_b (ylexB h h8) (eq_f h1 rfl)
    · refine eq_b (ylexG h h8) (eq_t (by rw [h.f8]; exact i00) (eq_b (yWord hi hy hkk h h8) (eq_t (bI_f hk) (eq_b (yblame0 h.f8) ?_))))
      rw [show gI (bI (gI MX 386 = kk), MY).2 4 = gI MX 388 from h.at_.trans (h.pl h8).symm]
      exact ymu2 (pos_ne h1)
end
section
/-! STEPS OF BOTH READERS: numbers, names -/
theorem KR.sg2 {kd pl va sg lx vy : Int32} {wd : Int64} {L s : Nat} (h : KR kd pl va sg lx vy wd L s) (hk : ¬ kd = 258) : (sg = 2 ↔ kd = 256) ∧ (kd = 256 → ∃ v, v ≤ 9999 ∧ va = nI v ∧ vy = nI v) := by
  rcases h with h | h | h | h | h
  · rw [h.1, h.2.2.1]; exact ⟨by decide, fun e => absurd e (by decide)⟩
  · exact absurd h.1 hk
  · rw [h.1, h.2.2.1]; exact ⟨by decide, fun _ => h.2.2.2.2.2⟩
  · have : ¬ kd = 256 := fun e => by
      have := h.1.2
      rw [e] at this
      exact absurd this (by decide)
    rw [h.2.2.1]
    exact ⟨⟨fun e => absurd e (by decide), fun e => absurd e this⟩, fun e => absurd e this⟩
  · obtain ⟨_, h3, _, _, v, w, k, _, hd, e1, _⟩ := h
    have : ¬ kd = 256 := fun e => by
      rw [e1] at e
      have := (nI_eq (a := k) (b := 256) (by rcases hd.1 with q | q <;> omega) (by decide)).mp e
      rcases hd.1 with q | q <;> omega
    rw [h3]
    exact ⟨⟨fun e => absurd e (by decide), fun e => absurd e this⟩, fun e => absurd e this⟩
def OutN (L s : Nat) (lo hi : Int32) (MX MY : Mem) (FX FY : Mem → Mem → Prop) (rx ry : Option (Int32 × Mem)) : Prop :=
  (∃ v MX' MY' s', v ≤ 9999 ∧ lo ≤ nI v ∧ nI v ≤ hi ∧ rx = some (nI v, MX') ∧ ry = some (nI v, MY') ∧ s < s' ∧ PR L s' MX' MY' ∧ FX MX MX' ∧ FY MY MY') ∨ (∃ MX' MY' u, rx = some (-1, MX') ∧ ry = some (u, MY') ∧ Flt MX' MY' ∧ FX MX MX' ∧ FY MY MY')
theorem ynumF {n0 : Nat} {lo hi : Int32} {M : Mem} (h : ¬ gI M 8 ≤ 0) : fX12_number n0 lo hi M = some (0, M) := by
  unfold fX12_number
  exact eq_b (ylexF h) (eq_f h rfl)
theorem y58F {n0 : Nat} {M : Mem} (h : ¬ gI M 8 = 0) : fX12_number_58 n0 M = some (gI M 6, M) := by
  unfold fX12_number_58
  exact eq_n (eq_f h rfl)
theorem y30F {n0 : Nat} {lo hi : Int32} {M : Mem} (h : ¬ gI M 8 = 0) : fX12_number_30 n0 lo hi M = some (gI M 6, M) := by
  unfold fX12_number_30
  exact eq_f h (y58F h)
theorem numP {n0 L s : Nat} {lo hi : Int32} {MX MY : Mem} (hn : 1601 ≤ n0) (h : PR L s MX MY) : OutN L s lo hi MX MY (FI 386 392) FrY (fX4_number n0 lo hi MX) (fX12_number n0 lo hi MY) := by
  have e8 : gI MY 8 ≤ 0 := by rw [h.f8]; exact i00
  by_cases hb : gI MX 386 = 258
  · refine Or.inr ⟨sI (sI MX 391 1) 392 (gI MX 388), sI (sI MY 8 1) 9 (gI MX 388), 0, ?_, ?_, Flt.mk (k := 1) (by decide) (by decide), FIf, FYf⟩
    · unfold fX4_number
      exact eq_n (eq_f (by rw [hb]; decide) (eq_b xfailH rfl))
    · unfold fX12_number
      exact eq_b (ylexB h hb) (eq_f (n8f (k := 1) (by decide) (by decide)) rfl)
  have hK := h.2.1.2.2.2.2.sg2 hb
  by_cases hk : gI MX 386 = 256
  · obtain ⟨v, hv, ex, ey⟩ := hK.2 hk
    have hs : s < L := h.2.1.2.2.2.2.lt (by rw [hk]; decide)
    by_cases hr : lo ≤ nI v ∧ nI v ≤ hi
    · obtain ⟨MX', MY', s', ax, ay, hs, hP, fx, fy⟩ := h.adv hn hs
      refine Or.inl ⟨v, MX', MY', s', hv, hr.1, hr.2, ?_, ?_, hs, hP, fx.wk (by decide) (by decide), fy.Y⟩
      · unfold fX4_number
        rw [ex]
        exact eq_n (eq_t hk (eq_f (Int32.not_lt.mpr hr.1) (eq_t hr.2 (eq_b ax rfl))))
      · unfold fX12_number fX12_number_30 fX12_number_58 fX12_is
        rw [← ey]
        rw [← ey] at hr
        exact eq_b (ylexG h hb) (eq_t e8 (eq_t (hK.1.mpr hk) (eq_t h.f8 (eq_b (z := (1, MY)) (eq_f (Int32.not_lt.mpr hr.1) (eq_f (Int32.not_lt.mpr hr.2) rfl)) (eq_f i10 (eq_n (eq_t h.f8 (eq_b ay rfl))))))))
    · refine Or.inr ⟨sI (sI MX 391 4) 392 (nI s), sI (sI MY 8 4) 9 (nI s), gI MY 6, ?_, ?_, Flt.mk (k := 4) (by decide) (by decide), FIf, FYf⟩
      · unfold fX4_number fX4_number_41
        rw [ex, h.st]
        by_cases h1 : nI v < lo
        · exact eq_n (eq_t hk (eq_t h1 (eq_b xfail rfl)))
        · exact eq_n (eq_t hk (eq_f h1 (eq_f (fun g => hr ⟨Int32.not_lt.mp h1, g⟩) (eq_b xfail rfl))))
      · have h5 : fX12_is n0 (gI MY 6) lo hi MY = some (0, MY) := by
          unfold fX12_is
          rw [ey]
          by_cases h1 : nI v < lo
          · exact eq_t h1 rfl
          · exact eq_f h1 (eq_t (Int32.not_le.mp (fun g => hr ⟨Int32.not_lt.mp h1, g⟩)) rfl)
        unfold fX12_number fX12_number_30
        refine eq_b (ylexG h hb) (eq_t e8 (eq_t (hK.1.mpr hk) (eq_t h.f8 (eq_b h5 (eq_t rfl (eq_b (yblame0 h.f8) ?_))))))
        show fX12_number_58 n0 (sI (sI MY 8 4) 9 (gI MY 4)) = _
        rw [h.at_, y58F (by rw [g8f]; decide)]
        rfl
  · refine Or.inr ⟨sI (sI MX 391 1) 392 (gI MX 388), sI (sI MY 8 1) 9 (gI MX 388), gI MY 6, ?_, ?_, Flt.mk (k := 1) (by decide) (by decide), FIf, FYf⟩
    · unfold fX4_number
      exact eq_n (eq_f hk (eq_b xfailH rfl))
    · unfold fX12_number
      refine eq_b (ylexG h hb) (eq_t e8 (eq_f (fun g => hk (hK.1.mp g)) (eq_b (yblame0 h.f8) ?_)))
      rw [h.at_, h.pl hb, y30F (by rw [g8f]; decide)]
      rfl
theorem yOwn {n0 : Nat} {y : Int64} {M : Mem} : ∃ u, fX12_isOwn n0 y M = some (u, M) ∧ ((u = 0 ∧ ∀ i, i < 25 → ¬ y = lN (ownL i)) ∨ (u = 1 ∧ ∃ i, i < 25 ∧ y = lN (ownL i))) := by
  unfold fX12_isOwn
  by_cases h0 : y = lN (ownL 0)
  · exact ⟨1, eq_t (cmp0.mpr h0) rfl, Or.inr ⟨rfl, 0, by decide, h0⟩⟩
  by_cases h1 : y = lN (ownL 1)
  · exact ⟨1, eq_f (fun q => h0 (cmp0.mp q)) (eq_t (cmp0.mpr h1) rfl), Or.inr ⟨rfl, 1, by decide, h1⟩⟩
  by_cases h2 : y = lN (ownL 2)
  · exact ⟨1, eq_f (fun q => h0 (cmp0.mp q)) (eq_f (fun q => h1 (cmp0.mp q)) (eq_t (cmp0.mpr h2) rfl)), Or.inr ⟨rfl, 2, by decide, h2⟩⟩
  by_cases h3 : y = lN (ownL 3)
  · exact ⟨1, eq_f (fun q => h0 (cmp0.mp q)) (eq_f (fun q => h1 (cmp0.mp q)) (eq_f (fun q => h2 (cmp0.mp q)) (eq_t (cmp0.mpr h3) rfl))), Or.inr ⟨rfl, 3, by decide, h3⟩⟩
  by_cases h4 : y = lN (ownL 4)
  · exact ⟨1, eq_f (fun q => h0 (cmp0.mp q)) (eq_f (fun q => h1 (cmp0.mp q)) (eq_f (fun q => h2 (cmp0.mp q)) (eq_f (fun q => h3 (cmp0.mp q)) (eq_t (cmp0.mpr h4) rfl)))), Or.inr ⟨rfl, 4, by decide, h4⟩⟩
  by_cases h5 : y = lN (ownL 5)
  · exact ⟨1, eq_f (fun q => h0 (cmp0.mp q)) (eq_f (fun q => h1 (cmp0.mp q)) (eq_f (fun q => h2 (cmp0.mp q)) (eq_f (fun q => h3 (cmp0.mp q)) (eq_f (fun q => h4 (cmp0.mp q)) (eq_t (cmp0.mpr h5) rfl))))), Or.inr ⟨rfl, 5, by decide, h5⟩⟩
  by_cases h6 : y = lN (ownL 6)
  · exact ⟨1, eq_f (fun q => h0 (cmp0.mp q)) (eq_f (fun q => h1 (cmp0.mp q)) (eq_f (fun q => h2 (cmp0.mp q)) (eq_f (fun q => h3 (cmp0.mp q)) (eq_f (fun q => h4 (cmp0.mp q)) (eq_f (fun q => h5 (cmp0.mp q)) (eq_t (cmp0.mpr h6) rfl)))))), Or.inr ⟨rfl, 6, by decide, h6⟩⟩
  by_cases h7 : y = lN (ownL 7)
  · exact ⟨1, eq_f (fun q => h0 (cmp0.mp q)) (eq_f (fun q => h1 (cmp0.mp q)) (eq_f (fun q => h2 (cmp0.mp q)) (eq_f (fun q => h3 (cmp0.mp q)) (eq_f (fun q => h4 (cmp0.mp q)) (eq_f (fun q => h5 (cmp0.mp q)) (eq_f (fun q => h6 (cmp0.mp q)) (eq_t (cmp0.mpr h7) rfl))))))), Or.inr ⟨rfl, 7, by decide, h7⟩⟩
  by_cases h8 : y = lN (ownL 8)
  · exact ⟨1, eq_f (fun q => h0 (cmp0.mp q)) (eq_f (fun q => h1 (cmp0.mp q)) (eq_f (fun q => h2 (cmp0.mp q)) (eq_f (fun q => h3 (cmp0.mp q)) (eq_f (fun q => h4 (cmp0.mp q)) (eq_f (fun q => h5 (cmp0.mp q)) (eq_f (fun q => h6 (cmp0.mp q)) (eq_f (fun q => h7 (cmp0.mp q)) (eq_t (cmp0.mpr h8) rfl)))))))), Or.inr ⟨rfl, 8, by decide, h8⟩⟩
  by_cases h9 : y = lN (ownL 9)
  · exact ⟨1, eq_f (fun q => h0 (cmp0.mp q)) (eq_f (fun q => h1 (cmp0.mp q)) (eq_f (fun q => h2 (cmp0.mp q)) (eq_f (fun q => h3 (cmp0.mp q)) (eq_f (fun q => h4 (cmp0.mp q)) (eq_f (fun q => h5 (cmp0.mp q)) (eq_f (fun q => h6 (cmp0.mp q)) (eq_f (fun q => h7 (cmp0.mp q)) (eq_f (fun q => h8 (cmp0.mp q)) (eq_t (cmp0.mpr h9) rfl))))))))), Or.inr ⟨rfl, 9, by decide, h9⟩⟩
  by_cases h10 : y = lN (ownL 10)
  · exact ⟨1, eq_f (fun q => h0 (cmp0.mp q)) (eq_f (fun q => h1 (cmp0.mp q)) (eq_f (fun q => h2 (cmp0.mp q)) (eq_f (fun q => h3 (cmp0.mp q)) (eq_f (fun q => h4 (cmp0.mp q)) (eq_f (fun q => h5 (cmp0.mp q)) (eq_f (fun q => h6 (cmp0.mp q)) (eq_f (fun q => h7 (cmp0.mp q)) (eq_f (fun q => h8 (cmp0.mp q)) (eq_f (fun q => h9 (cmp0.mp q)) (eq_t (cmp0.mpr h10) rfl)))))))))), Or.inr ⟨rfl, 10, by decide, h10⟩⟩
  by_cases h11 : y = lN (ownL 11)
  · exact ⟨1, eq_f (fun q => h0 (cmp0.mp q)) (eq_f (fun q => h1 (cmp0.mp q)) (eq_f (fun q => h2 (cmp0.mp q)) (eq_f (fun q => h3 (cmp0.mp q)) (eq_f (fun q => h4 (cmp0.mp q)) (eq_f (fun q => h5 (cmp0.mp q)) (eq_f (fun q => h6 (cmp0.mp q)) (eq_f (fun q => h7 (cmp0.mp q)) (eq_f (fun q => h8 (cmp0.mp q)) (eq_f (fun q => h9 (cmp0.mp q)) (eq_f (fun q => h10 (cmp0.mp q)) (eq_t (cmp0.mpr h11) rfl))))))))))), Or.inr ⟨rfl, 11, by decide, h11⟩⟩
  by_cases h12 : y = lN (ownL 12)
  · exact ⟨1, eq_f (fun q => h0 (cmp0.mp q)) (eq_f (fun q => h1 (cmp0.mp q)) (eq_f (fun q => h2 (cmp0.mp q)) (eq_f (fun q => h3 (cmp0.mp q)) (eq_f (fun q => h4 (cmp0.mp q)) (eq_f (fun q => h5 (cmp0.mp q)) (eq_f (fun q => h6 (cmp0.mp q)) (eq_f (fun q => h7 (cmp0.mp q)) (eq_f (fun q => h8 (cmp0.mp q)) (eq_f (fun q => h9 (cmp0.mp q)) (eq_f (fun q => h10 (cmp0.mp q)) (eq_f (fun q => h11 (cmp0.mp q)) (eq_t (cmp0.mpr h12) rfl)))))))))))), Or.inr ⟨rfl, 12, by decide, h12⟩⟩
  by_cases h13 : y = lN (ownL 13)
  · exact ⟨1, eq_f (fun q => h0 (cmp0.mp q)) (eq_f (fun q => h1 (cmp0.mp q)) (eq_f (fun q => h2 (cmp0.mp q)) (eq_f (fun q => h3 (cmp0.mp q)) (eq_f (fun q => h4 (cmp0.mp q)) (eq_f (fun q => h5 (cmp0.mp q)) (eq_f (fun q => h6 (cmp0.mp q)) (eq_f (fun q => h7 (cmp0.mp q)) (eq_f (fun q => h8 (cmp0.mp q)) (eq_f (fun q => h9 (cmp0.mp q)) (eq_f (fun q => h10 (cmp0.mp q)) (eq_f (fun q => h11 (cmp0.mp q)) (eq_f (fun q => h12 (cmp0.mp q)) (eq_t (cmp0.mpr h13) rfl))))))))))))), Or.inr ⟨rfl, 13, by decide, h13⟩⟩
  by_cases h14 : y = lN (ownL 14)
  · exact ⟨1, eq_f (fun q => h0 (cmp0.mp q)) (eq_f (fun q => h1 (cmp0.mp q)) (eq_f (fun q => h2 (cmp0.mp q)) (eq_f (fun q => h3 (cmp0.mp q)) (eq_f (fun q => h4 (cmp0.mp q)) (eq_f (fun q => h5 (cmp0.mp q)) (eq_f (fun q => h6 (cmp0.mp q)) (eq_f (fun q => h7 (cmp0.mp q)) (eq_f (fun q => h8 (cmp0.mp q)) (eq_f (fun q => h9 (cmp0.mp q)) (eq_f (fun q => h10 (cmp0.mp q)) (eq_f (fun q => h11 (cmp0.mp q)) (eq_f (fun q => h12 (cmp0.mp q)) (eq_f (fun q => h13 (cmp0.mp q)) (eq_t (cmp0.mpr h14) rfl)))))))))))))), Or.inr ⟨rfl, 14, by decide, h14⟩⟩
  by_cases h15 : y = lN (ownL 15)
  · exact ⟨1, eq_f (fun q => h0 (cmp0.mp q)) (eq_f (fun q => h1 (cmp0.mp q)) (eq_f (fun q => h2 (cmp0.mp q)) (eq_f (fun q => h3 (cmp0.mp q)) (eq_f (fun q => h4 (cmp0.mp q)) (eq_f (fun q => h5 (cmp0.mp q)) (eq_f (fun q => h6 (cmp0.mp q)) (eq_f (fun q => h7 (cmp0.mp q)) (eq_f (fun q => h8 (cmp0.mp q)) (eq_f (fun q => h9 (cmp0.mp q)) (eq_f (fun q => h10 (cmp0.mp q)) (eq_f (fun q => h11 (cmp0.mp q)) (eq_f (fun q => h12 (cmp0.mp q)) (eq_f (fun q => h13 (cmp0.mp q)) (eq_f (fun q => h14 (cmp0.mp q)) (eq_t (cmp0.mpr h15) rfl))))))))))))))), Or.inr ⟨rfl, 15, by decide, h15⟩⟩
  by_cases h16 : y = lN (ownL 16)
  · exact ⟨1, eq_f (fun q => h0 (cmp0.mp q)) (eq_f (fun q => h1 (cmp0.mp q)) (eq_f (fun q => h2 (cmp0.mp q)) (eq_f (fun q => h3 (cmp0.mp q)) (eq_f (fun q => h4 (cmp0.mp q)) (eq_f (fun q => h5 (cmp0.mp q)) (eq_f (fun q => h6 (cmp0.mp q)) (eq_f (fun q => h7 (cmp0.mp q)) (eq_f (fun q => h8 (cmp0.mp q)) (eq_f (fun q => h9 (cmp0.mp q)) (eq_f (fun q => h10 (cmp0.mp q)) (eq_f (fun q => h11 (cmp0.mp q)) (eq_f (fun q => h12 (cmp0.mp q)) (eq_f (fun q => h13 (cmp0.mp q)) (eq_f (fun q => h14 (cmp0.mp q)) (eq_f (fun q => h15 (cmp0.mp q)) (eq_t (cmp0.mpr h16) rfl)))))))))))))))), Or.inr ⟨rfl, 16, by decide, h16⟩⟩
  by_cases h17 : y = lN (ownL 17)
  · exact ⟨1, eq_f (fun q => h0 (cmp0.mp q)) (eq_f (fun q => h1 (cmp0.mp q)) (eq_f (fun q => h2 (cmp0.mp q)) (eq_f (fun q => h3 (cmp0.mp q)) (eq_f (fun q => h4 (cmp0.mp q)) (eq_f (fun q => h5 (cmp0.mp q)) (eq_f (fun q => h6 (cmp0.mp q)) (eq_f (fun q => h7 (cmp0.mp q)) (eq_f (fun q => h8 (cmp0.mp q)) (eq_f (fun q => h9 (cmp0.mp q)) (eq_f (fun q => h10 (cmp0.mp q)) (eq_f (fun q => h11 (cmp0.mp q)) (eq_f (fun q => h12 (cmp0.mp q)) (eq_f (fun q => h13 (cmp0.mp q)) (eq_f (fun q => h14 (cmp0.mp q)) (eq_f (fun q => h15 (cmp0.mp q)) (eq_f (fun q => h16 (cmp0.mp q)) (eq_t (cmp0.mpr h17) rfl))))))))))))))))), Or.inr ⟨rfl, 17, by decide, h17⟩⟩
  by_cases h18 : y = lN (ownL 18)
  · exact ⟨1, eq_f (fun q => h0 (cmp0.mp q)) (eq_f (fun q => h1 (cmp0.mp q)) (eq_f (fun q => h2 (cmp0.mp q)) (eq_f (fun q => h3 (cmp0.mp q)) (eq_f (fun q => h4 (cmp0.mp q)) (eq_f (fun q => h5 (cmp0.mp q)) (eq_f (fun q => h6 (cmp0.mp q)) (eq_f (fun q => h7 (cmp0.mp q)) (eq_f (fun q => h8 (cmp0.mp q)) (eq_f (fun q => h9 (cmp0.mp q)) (eq_f (fun q => h10 (cmp0.mp q)) (eq_f (fun q => h11 (cmp0.mp q)) (eq_f (fun q => h12 (cmp0.mp q)) (eq_f (fun q => h13 (cmp0.mp q)) (eq_f (fun q => h14 (cmp0.mp q)) (eq_f (fun q => h15 (cmp0.mp q)) (eq_f (fun q => h16 (cmp0.mp q)) (eq_f (fun q => h17 (cmp0.mp q)) (eq_t (cmp0.mpr h18) rfl)))))))))))))))))), Or.inr ⟨rfl, 18, by decide, h18⟩⟩
  by_cases h19 : y = lN (ownL 19)
  · exact ⟨1, eq_f (fun q => h0 (cmp0.mp q)) (eq_f (fun q => h1 (cmp0.mp q)) (eq_f (fun q => h2 (cmp0.mp q)) (eq_f (fun q => h3 (cmp0.mp q)) (eq_f (fun q => h4 (cmp0.mp q)) (eq_f (fun q => h5 (cmp0.mp q)) (eq_f (fun q => h6 (cmp0.mp q)) (eq_f (fun q => h7 (cmp0.mp q)) (eq_f (fun q => h8 (cmp0.mp q)) (eq_f (fun q => h9 (cmp0.mp q)) (eq_f (fun q => h10 (cmp0.mp q)) (eq_f (fun q => h11 (cmp0.mp q)) (eq_f (fun q => h12 (cmp0.mp q)) (eq_f (fun q => h13 (cmp0.mp q)) (eq_f (fun q => h14 (cmp0.mp q)) (eq_f (fun q => h15 (cmp0.mp q)) (eq_f (fun q => h16 (cmp0.mp q)) (eq_f (fun q => h17 (cmp0.mp q)) (eq_f (fun q => h18 (cmp0.mp q)) (eq_t (cmp0.mpr h19) rfl))))))))))))))))))), Or.inr ⟨rfl, 19, by decide, h19⟩⟩
  by_cases h20 : y = lN (ownL 20)
  · exact ⟨1, eq_f (fun q => h0 (cmp0.mp q)) (eq_f (fun q => h1 (cmp0.mp q)) (eq_f (fun q => h2 (cmp0.mp q)) (eq_f (fun q => h3 (cmp0.mp q)) (eq_f (fun q => h4 (cmp0.mp q)) (eq_f (fun q => h5 (cmp0.mp q)) (eq_f (fun q => h6 (cmp0.mp q)) (eq_f (fun q => h7 (cmp0.mp q)) (eq_f (fun q => h8 (cmp0.mp q)) (eq_f (fun q => h9 (cmp0.mp q)) (eq_f (fun q => h10 (cmp0.mp q)) (eq_f (fun q => h11 (cmp0.mp q)) (eq_f (fun q => h12 (cmp0.mp q)) (eq_f (fun q => h13 (cmp0.mp q)) (eq_f (fun q => h14 (cmp0.mp q)) (eq_f (fun q => h15 (cmp0.mp q)) (eq_f (fun q => h16 (cmp0.mp q)) (eq_f (fun q => h17 (cmp0.mp q)) (eq_f (fun q => h18 (cmp0.mp q)) (eq_f (fun q => h19 (cmp0.mp q)) (eq_t (cmp0.mpr h20) rfl)))))))))))))))))))), Or.inr ⟨rfl, 20, by decide, h20⟩⟩
  by_cases h21 : y = lN (ownL 21)
  · exact ⟨1, eq_f (fun q => h0 (cmp0.mp q)) (eq_f (fun q => h1 (cmp0.mp q)) (eq_f (fun q => h2 (cmp0.mp q)) (eq_f (fun q => h3 (cmp0.mp q)) (eq_f (fun q => h4 (cmp0.mp q)) (eq_f (fun q => h5 (cmp0.mp q)) (eq_f (fun q => h6 (cmp0.mp q)) (eq_f (fun q => h7 (cmp0.mp q)) (eq_f (fun q => h8 (cmp0.mp q)) (eq_f (fun q => h9 (cmp0.mp q)) (eq_f (fun q => h10 (cmp0.mp q)) (eq_f (fun q => h11 (cmp0.mp q)) (eq_f (fun q => h12 (cmp0.mp q)) (eq_f (fun q => h13 (cmp0.mp q)) (eq_f (fun q => h14 (cmp0.mp q)) (eq_f (fun q => h15 (cmp0.mp q)) (eq_f (fun q => h16 (cmp0.mp q)) (eq_f (fun q => h17 (cmp0.mp q)) (eq_f (fun q => h18 (cmp0.mp q)) (eq_f (fun q => h19 (cmp0.mp q)) (eq_f (fun q => h20 (cmp0.mp q)) (eq_t (cmp0.mpr h21) rfl))))))))))))))))))))), Or.inr ⟨rfl, 21, by decide, h21⟩⟩
  by_cases h22 : y = lN (ownL 22)
  · exact ⟨1, eq_f (fun q => h0 (cmp0.mp q)) (eq_f (fun q => h1 (cmp0.mp q)) (eq_f (fun q => h2 (cmp0.mp q)) (eq_f (fun q => h3 (cmp0.mp q)) (eq_f (fun q => h4 (cmp0.mp q)) (eq_f (fun q => h5 (cmp0.mp q)) (eq_f (fun q => h6 (cmp0.mp q)) (eq_f (fun q => h7 (cmp0.mp q)) (eq_f (fun q => h8 (cmp0.mp q)) (eq_f (fun q => h9 (cmp0.mp q)) (eq_f (fun q => h10 (cmp0.mp q)) (eq_f (fun q => h11 (cmp0.mp q)) (eq_f (fun q => h12 (cmp0.mp q)) (eq_f (fun q => h13 (cmp0.mp q)) (eq_f (fun q => h14 (cmp0.mp q)) (eq_f (fun q => h15 (cmp0.mp q)) (eq_f (fun q => h16 (cmp0.mp q)) (eq_f (fun q => h17 (cmp0.mp q)) (eq_f (fun q => h18 (cmp0.mp q)) (eq_f (fun q => h19 (cmp0.mp q)) (eq_f (fun q => h20 (cmp0.mp q)) (eq_f (fun q => h21 (cmp0.mp q)) (eq_t (cmp0.mpr h22) rfl)))))))))))))))))))))), Or.inr ⟨rfl, 22, by decide, h22⟩⟩
  by_cases h23 : y = lN (ownL 23)
  · exact ⟨1, eq_f (fun q => h0 (cmp0.mp q)) (eq_f (fun q => h1 (cmp0.mp q)) (eq_f (fun q => h2 (cmp0.mp q)) (eq_f (fun q => h3 (cmp0.mp q)) (eq_f (fun q => h4 (cmp0.mp q)) (eq_f (fun q => h5 (cmp0.mp q)) (eq_f (fun q => h6 (cmp0.mp q)) (eq_f (fun q => h7 (cmp0.mp q)) (eq_f (fun q => h8 (cmp0.mp q)) (eq_f (fun q => h9 (cmp0.mp q)) (eq_f (fun q => h10 (cmp0.mp q)) (eq_f (fun q => h11 (cmp0.mp q)) (eq_f (fun q => h12 (cmp0.mp q)) (eq_f (fun q => h13 (cmp0.mp q)) (eq_f (fun q => h14 (cmp0.mp q)) (eq_f (fun q => h15 (cmp0.mp q)) (eq_f (fun q => h16 (cmp0.mp q)) (eq_f (fun q => h17 (cmp0.mp q)) (eq_f (fun q => h18 (cmp0.mp q)) (eq_f (fun q => h19 (cmp0.mp q)) (eq_f (fun q => h20 (cmp0.mp q)) (eq_f (fun q => h21 (cmp0.mp q)) (eq_f (fun q => h22 (cmp0.mp q)) (eq_t (cmp0.mpr h23) rfl))))))))))))))))))))))), Or.inr ⟨rfl, 23, by decide, h23⟩⟩
  by_cases h24 : y = lN (ownL 24)
  · exact ⟨1, eq_f (fun q => h0 (cmp0.mp q)) (eq_f (fun q => h1 (cmp0.mp q)) (eq_f (fun q => h2 (cmp0.mp q)) (eq_f (fun q => h3 (cmp0.mp q)) (eq_f (fun q => h4 (cmp0.mp q)) (eq_f (fun q => h5 (cmp0.mp q)) (eq_f (fun q => h6 (cmp0.mp q)) (eq_f (fun q => h7 (cmp0.mp q)) (eq_f (fun q => h8 (cmp0.mp q)) (eq_f (fun q => h9 (cmp0.mp q)) (eq_f (fun q => h10 (cmp0.mp q)) (eq_f (fun q => h11 (cmp0.mp q)) (eq_f (fun q => h12 (cmp0.mp q)) (eq_f (fun q => h13 (cmp0.mp q)) (eq_f (fun q => h14 (cmp0.mp q)) (eq_f (fun q => h15 (cmp0.mp q)) (eq_f (fun q => h16 (cmp0.mp q)) (eq_f (fun q => h17 (cmp0.mp q)) (eq_f (fun q => h18 (cmp0.mp q)) (eq_f (fun q => h19 (cmp0.mp q)) (eq_f (fun q => h20 (cmp0.mp q)) (eq_f (fun q => h21 (cmp0.mp q)) (eq_f (fun q => h22 (cmp0.mp q)) (eq_f (fun q => h23 (cmp0.mp q)) (eq_t (cmp0.mpr h24) rfl)))))))))))))))))))))))), Or.inr ⟨rfl, 24, by decide, h24⟩⟩
  refine ⟨0, eq_f (fun q => h0 (cmp0.mp q)) (eq_f (fun q => h1 (cmp0.mp q)) (eq_f (fun q => h2 (cmp0.mp q)) (eq_f (fun q => h3 (cmp0.mp q)) (eq_f (fun q => h4 (cmp0.mp q)) (eq_f (fun q => h5 (cmp0.mp q)) (eq_f (fun q => h6 (cmp0.mp q)) (eq_f (fun q => h7 (cmp0.mp q)) (eq_f (fun q => h8 (cmp0.mp q)) (eq_f (fun q => h9 (cmp0.mp q)) (eq_f (fun q => h10 (cmp0.mp q)) (eq_f (fun q => h11 (cmp0.mp q)) (eq_f (fun q => h12 (cmp0.mp q)) (eq_f (fun q => h13 (cmp0.mp q)) (eq_f (fun q => h14 (cmp0.mp q)) (eq_f (fun q => h15 (cmp0.mp q)) (eq_f (fun q => h16 (cmp0.mp q)) (eq_f (fun q => h17 (cmp0.mp q)) (eq_f (fun q => h18 (cmp0.mp q)) (eq_f (fun q => h19 (cmp0.mp q)) (eq_f (fun q => h20 (cmp0.mp q)) (eq_f (fun q => h21 (cmp0.mp q)) (eq_f (fun q => h22 (cmp0.mp q)) (eq_f (fun q => h23 (cmp0.mp q)) (eq_f (fun q => h24 (cmp0.mp q)) (rfl))))))))))))))))))))))))), Or.inl ⟨rfl, fun i hi => ?_⟩⟩
  have hh : i = 0 ∨ i = 1 ∨ i = 2 ∨ i = 3 ∨ i = 4 ∨ i = 5 ∨ i = 6 ∨ i = 7 ∨ i = 8 ∨ i = 9 ∨ i = 10 ∨ i = 11 ∨ i = 12 ∨ i = 13 ∨ i = 14 ∨ i = 15 ∨ i = 16 ∨ i = 17 ∨ i = 18 ∨ i = 19 ∨ i = 20 ∨ i = 21 ∨ i = 22 ∨ i = 23 ∨ i = 24 := by omega
  rcases hh with rfl | rfl | rfl | rfl | rfl | rfl | rfl | rfl | rfl | rfl | rfl | rfl | rfl | rfl | rfl | rfl | rfl | rfl | rfl | rfl | rfl | rfl | rfl | rfl | rfl
  · exact h0
  · exact h1
  · exact h2
  · exact h3
  · exact h4
  · exact h5
  · exact h6
  · exact h7
  · exact h8
  · exact h9
  · exact h10
  · exact h11
  · exact h12
  · exact h13
  · exact h14
  · exact h15
  · exact h16
  · exact h17
  · exact h18
  · exact h19
  · exact h20
  · exact h21
  · exact h22
  · exact h23
  · exact h24
/-- names of one sort on both sides -/
def NmS (cap n : Nat) (xs : Nat → Int32) (ys : Nat → Int64) : Prop := n ≤ cap ∧ ∀ i, i < n → ∃ v w, WR v w ∧ xs i = nI v ∧ ys i = lN w
theorem find2 {n0 qa n cap v w : Nat} {sort : Int32} {ys : Nat → Int64} {MX MY : Mem} (hw : WR v w) (hcap : LX.ln qa = cap) (hc6 : cap ≤ 6) (hN : NmS cap n (gA MX qa) ys) (hM : fX12_manyOf n0 (gI MY 34) sort MY = some (nI n, MY)) (hNm : ∀ i, i < n → fX12_nameOf n0 (gI MY 34) sort (nI i) MY = some (ys i, MY)) : ∀ (u j : Nat), j ≤ n → n < u + j → (∀ i, i < j → ¬ gA MX qa i = nI v) → ∃ r, loopN (bX9_find_2 n0 qa) (fun _ _ _ _ => none) u (nI n) (nI v) (nI j) MX = some (r, MX) ∧ loopN (bX12_named_3 n0) (fun _ _ _ _ => none) u sort (lN w) (nI j) MY = some (r, MY) ∧ ((r = -1 ∧ ∀ i, i < n → ¬ gA MX qa i = nI v) ∨ ∃ i, i < n ∧ r = nI i) := by
  intro u
  have hn := hN.1
  induction u with
  | zero => intro j _ h; omega
  | succ u ih =>
    intro j hj hu hne
    rw [lpS, lpS, bX9_find_2, bX12_named_3]
    by_cases h : n ≤ j
    · exact ⟨-1, eq_t (nI_le h (by omega)) rfl, eq_b hM (eq_t (nI_le h (by omega)) rfl), Or.inl ⟨rfl, fun i hi => hne i (by omega)⟩⟩
    · have g1 : ¬ nI n ≤ nI j := nI_ge (by omega) (by omega)
      have g2 : ¬ Int32.ofNat (LX.ln qa) ≤ nI j := by rw [hcap]; exact nI_ge (b := cap) (by omega) (by omega)
      have g3 : ¬ oob (nI j) (LX.ln qa) := by rw [hcap]; exact nI_in (by omega) (by omega)
      have hcl : (nI j).toNatClampNeg = j := nI_clamp (by omega)
      obtain ⟨v', w', hw', ex, ey⟩ := hN.2 j (by omega)
      by_cases e : gA MX qa j = nI v
      · refine ⟨nI j, eq_f g1 (eq_f g2 (eq_f g3 (eq_t (by rw [hcl]; exact e) rfl))), eq_b hM (eq_f g1 (eq_b (hNm j (by omega)) (eq_t ?_ rfl))), Or.inr ⟨j, by omega, rfl⟩⟩
        show lg_cmp (ys j) (lN w) = 0
        rw [ex] at e
        rw [ey, cmp0]
        exact (hw'.nI hw).mp e
      · obtain ⟨r, r1, r2, r3⟩ := ih (j + 1) (by omega) (by omega) (fun i hi => by
          by_cases q : i = j
          · rw [q]; exact e
          · exact hne i (by omega))
        refine ⟨r, eq_f g1 (eq_f g2 (eq_f g3 (eq_f (by rw [hcl]; exact e) (by rw [nI_1]; exact r1)))), eq_b hM (eq_f g1 (eq_b (hNm j (by omega)) (eq_f ?_ (by rw [nI_1]; exact r2)))), r3⟩
        show ¬ lg_cmp (ys j) (lN w) = 0
        rw [ex] at e
        rw [ey, cmp0]
        exact fun g => e ((hw'.nI hw).mpr g)
end
section
/-! STEPS OF BOTH READERS: names to be given, names that are known -/
theorem KR.nm {kd pl va sg lx vy : Int32} {wd : Int64} {L s : Nat} (h : KR kd pl va sg lx vy wd L s) (hk : kd = 257) : sg = 1 ∧ ∃ v w, WR v w ∧ va = nI v ∧ wd = lN w ∧ ∀ i, i < 25 → ¬ wd = lN (ownL i) := by
  rcases h with h | h | h | h | h
  · rw [hk] at h; exact absurd h.1 (by decide)
  · rw [hk] at h; exact absurd h.1 (by decide)
  · rw [hk] at h; exact absurd h.1 (by decide)
  · rw [hk] at h; exact absurd h.1.2 (by decide)
  · obtain ⟨_, h3, _, _, v, w, k, hw, hd, e1, e2, e3⟩ := h
    refine ⟨h3, v, w, hw, e2, e3, fun i hi g => ?_⟩
    rw [e3] at g
    have := (hd.2 i hi).mpr ((hw.iff (own_WR hi)).mpr ((pk_lEQ (Nat.lt_trans hw.w_lt (by decide)) (Nat.lt_trans (own_WR hi).w_lt (by decide))).mp g))
    rw [hk] at e1
    have := (nI_eq (a := 257) (b := k) (by decide) (by omega)).mp e1
    omega
theorem KR.nn {kd pl va sg lx vy : Int32} {wd : Int64} {L s : Nat} (h : KR kd pl va sg lx vy wd L s) (hb : ¬ kd = 258) (hk : ¬ kd = 257) : ¬ sg = 1 ∨ ∃ i, i < 25 ∧ wd = lN (ownL i) := by
  rcases h with h | h | h | h | h
  · exact Or.inl (by rw [h.2.2.1]; decide)
  · exact absurd h.1 hb
  · exact Or.inl (by rw [h.2.2.1]; decide)
  · exact Or.inl (by rw [h.2.2.1]; decide)
  · obtain ⟨_, h3, _, _, v, w, k, hw, hd, e1, e2, e3⟩ := h
    right
    rcases hd.1 with q | q
    · rw [q] at e1; exact absurd e1 hk
    · refine ⟨k - 260, by omega, ?_⟩
      have hi : k - 260 < 25 := by omega
      rw [e3]
      exact congrArg lN ((hw.iff (own_WR hi)).mp ((hd.2 (k - 260) hi).mp (by omega)))
theorem yOwn0 {n0 : Nat} {y : Int64} {M : Mem} (h : ∀ i, i < 25 → ¬ y = lN (ownL i)) : fX12_isOwn n0 y M = some (0, M) := by
  obtain ⟨u, e, q | ⟨_, i, hi, q⟩⟩ := yOwn (n0 := n0) (y := y) (M := M)
  · rw [e, q.1]
  · exact absurd q (h i hi)
theorem yOwn1 {n0 : Nat} {y : Int64} {M : Mem} (h : ∃ i, i < 25 ∧ y = lN (ownL i)) : fX12_isOwn n0 y M = some (1, M) := by
  obtain ⟨u, e, q | q⟩ := yOwn (n0 := n0) (y := y) (M := M)
  · obtain ⟨i, hi, g⟩ := h
    exact absurd g (q.2 i hi)
  · rw [e, q.1]
/-- names of a town that is read: its place q, its bank b -/
def NmR (q b nt nc nd : Nat) (MX MY : Mem) : Prop :=
  (gI MX (128 * q + 1) = nI nt ∧ gA MY 2 b = nI nt ∧ NmS 6 nt (gA MX (q + 1)) (fun i => gB MY 18 (6 * b + i))) ∧
  (gI MX (128 * q + 5) = nI nc ∧ gA MY 5 b = nI nc ∧ NmS 5 nc (gA MX (q + 4)) (fun i => gB MY 19 (5 * b + i))) ∧
  (gI MX (128 * q + 12) = nI nd ∧ gA MY 10 b = nI nd ∧ NmS 6 nd (gA MX (q + 9)) (fun i => gB MY 20 (6 * b + i)))
def At (q b : Nat) (MX MY : Mem) : Prop := gR MX 130 = q ∧ (q = 31 ∨ q = 47) ∧ gI MY 34 = nI b ∧ b ≤ 1
theorem n6 (b i : Nat) : (6 : Int32) * nI b + nI i = nI (6 * b + i) := by rw [← nI_add, ← nI_mul]; rfl
theorem n5 (b i : Nat) : (5 : Int32) * nI b + nI i = nI (5 * b + i) := by rw [← nI_add, ← nI_mul]; rfl
theorem yN0 {n0 b i : Nat} {M : Mem} (hb : b ≤ 1) (hi : i < 6) : fX12_nameOf n0 (nI b) 0 (nI i) M = some (gB M 18 (6 * b + i), M) := by
  unfold fX12_nameOf
  refine eq_t rfl (eq_f (by rw [n6]; exact nI_in (by omega) (by decide)) ?_)
  rw [n6, nI_clamp (by omega)]
theorem yN1 {n0 b i : Nat} {M : Mem} (hb : b ≤ 1) (hi : i < 5) : fX12_nameOf n0 (nI b) 1 (nI i) M = some (gB M 19 (5 * b + i), M) := by
  unfold fX12_nameOf
  refine eq_f i10 (eq_t rfl (eq_f (by rw [n5]; exact nI_in (by omega) (by decide)) ?_))
  rw [n5, nI_clamp (by omega)]
theorem yN2 {n0 b i : Nat} {M : Mem} (hb : b ≤ 1) (hi : i < 6) : fX12_nameOf n0 (nI b) 2 (nI i) M = some (gB M 20 (6 * b + i), M) := by
  unfold fX12_nameOf
  refine eq_f (by decide) (eq_f (by decide) (eq_f (by rw [n6]; exact nI_in (by omega) (by decide)) ?_))
  rw [n6, nI_clamp (by omega)]
theorem yM0 {n0 b : Nat} {M : Mem} (hb : b ≤ 1) : fX12_manyOf n0 (nI b) 0 M = some (gA M 2 b, M) := by
  unfold fX12_manyOf
  refine eq_t rfl (eq_f (nI_in (by omega) (by decide)) ?_)
  rw [nI_clamp (by omega)]
theorem yM1 {n0 b : Nat} {M : Mem} (hb : b ≤ 1) : fX12_manyOf n0 (nI b) 1 M = some (gA M 5 b, M) := by
  unfold fX12_manyOf
  refine eq_f i10 (eq_t rfl (eq_f (nI_in (by omega) (by decide)) ?_))
  rw [nI_clamp (by omega)]
theorem yM2 {n0 b : Nat} {M : Mem} (hb : b ≤ 1) : fX12_manyOf n0 (nI b) 2 M = some (gA M 10 b, M) := by
  unfold fX12_manyOf
  refine eq_f (by decide) (eq_f (by decide) (eq_f (nI_in (by omega) (by decide)) ?_))
  rw [nI_clamp (by omega)]
theorem ln_1 {q : Nat} (h : q = 31 ∨ q = 47) : LX.ln (q + 1) = 6 := by rcases h with rfl | rfl <;> rfl
theorem ln_4 {q : Nat} (h : q = 31 ∨ q = 47) : LX.ln (q + 4) = 5 := by rcases h with rfl | rfl <;> rfl
theorem ln_9 {q : Nat} (h : q = 31 ∨ q = 47) : LX.ln (q + 9) = 6 := by rcases h with rfl | rfl <;> rfl
theorem find0 {n0 q b nt nc nd v w : Nat} {MX MY : Mem} (hn : 1601 ≤ n0) (hA : At q b MX MY) (hN : NmR q b nt nc nd MX MY) (hw : WR v w) : ∃ r, fX9_findThing n0 q (nI v) MX = some (r, MX) ∧ fX12_named n0 0 (lN w) MY = some (r, MY) ∧ ((r = -1 ∧ ∀ i, i < nt → ¬ gA MX (q + 1) i = nI v) ∨ ∃ i, i < nt ∧ r = nI i) := by
  obtain ⟨h1, h2, h3⟩ := hN.1
  have := h3.1
  obtain ⟨r, a1, a2, a3⟩ := find2 (n0 := n0) (sort := 0) hw (ln_1 hA.2.1) (by decide) h3 (by rw [hA.2.2.1, yM0 hA.2.2.2, h2]) (fun i hi => by rw [hA.2.2.1, yN0 hA.2.2.2 (by omega)]) n0 0 (by omega) (by omega) (fun i hi => by omega)
  refine ⟨r, ?_, a2, a3⟩
  unfold fX9_findThing
  rw [h1]
  exact eq_b a1 rfl
theorem find1 {n0 q b nt nc nd v w : Nat} {MX MY : Mem} (hn : 1601 ≤ n0) (hA : At q b MX MY) (hN : NmR q b nt nc nd MX MY) (hw : WR v w) : ∃ r, fX9_findCorner n0 q (nI v) MX = some (r, MX) ∧ fX12_named n0 1 (lN w) MY = some (r, MY) ∧ ((r = -1 ∧ ∀ i, i < nc → ¬ gA MX (q + 4) i = nI v) ∨ ∃ i, i < nc ∧ r = nI i) := by
  obtain ⟨h1, h2, h3⟩ := hN.2.1
  have := h3.1
  obtain ⟨r, a1, a2, a3⟩ := find2 (n0 := n0) (sort := 1) hw (ln_4 hA.2.1) (by decide) h3 (by rw [hA.2.2.1, yM1 hA.2.2.2, h2]) (fun i hi => by rw [hA.2.2.1, yN1 hA.2.2.2 (by omega)]) n0 0 (by omega) (by omega) (fun i hi => by omega)
  refine ⟨r, ?_, a2, a3⟩
  unfold fX9_findCorner
  rw [h1]
  exact eq_b a1 rfl
theorem find2d {n0 q b nt nc nd v w : Nat} {MX MY : Mem} (hn : 1601 ≤ n0) (hA : At q b MX MY) (hN : NmR q b nt nc nd MX MY) (hw : WR v w) : ∃ r, fX9_findDoing n0 q (nI v) MX = some (r, MX) ∧ fX12_named n0 2 (lN w) MY = some (r, MY) ∧ ((r = -1 ∧ ∀ i, i < nd → ¬ gA MX (q + 9) i = nI v) ∨ ∃ i, i < nd ∧ r = nI i) := by
  obtain ⟨h1, h2, h3⟩ := hN.2.2
  have := h3.1
  obtain ⟨r, a1, a2, a3⟩ := find2 (n0 := n0) (sort := 2) hw (ln_9 hA.2.1) (by decide) h3 (by rw [hA.2.2.1, yM2 hA.2.2.2, h2]) (fun i hi => by rw [hA.2.2.1, yN2 hA.2.2.2 (by omega)]) n0 0 (by omega) (by omega) (fun i hi => by omega)
  refine ⟨r, ?_, a2, a3⟩
  unfold fX9_findDoing
  rw [h1]
  exact eq_b a1 rfl
-- a name to be given
def OutW (L s : Nat) (MX MY : Mem) (rx : Option (Int32 × Mem)) (ry : Option (Int64 × Mem)) : Prop :=
  (∃ v w MX' MY' s', WR v w ∧ rx = some (nI v, MX') ∧ ry = some (lN w, MY') ∧ s < s' ∧ PR L s' MX' MY' ∧ FI 386 392 MX MX' ∧ FrY MY MY') ∨ (∃ MX' MY' u, rx = some (-1, MX') ∧ ry = some (u, MY') ∧ Flt MX' MY' ∧ FI 386 392 MX MX' ∧ FrY MY MY')
theorem yfreshF {n0 : Nat} {M : Mem} (h : ¬ gI M 8 ≤ 0) : fX12_fresh n0 M = some (0, M) := by
  unfold fX12_fresh
  exact eq_b (ylexF h) (eq_f h rfl)
theorem yf83 {n0 : Nat} {M : Mem} (h : ¬ gI M 8 = 0) : fX12_fresh_83 n0 M = some (gL M 7, M) := by
  unfold fX12_fresh_83
  exact eq_n (eq_f h rfl)
theorem yfl {n0 u : Nat} {x : Int32} {M : Mem} (h : ¬ gI M 8 = 0) : loopN (bX12_fresh_43 n0) (fun _ _ => none) (u + 1) x M = some (gL M 7, M) := by
  rw [lpS, bX12_fresh_43]
  by_cases g : (2 : Int32) < x
  · exact eq_t g (yf83 h)
  · exact eq_f g (eq_f h (yf83 h))
theorem newP {n0 L s q b nt nc nd : Nat} {MX MY : Mem} (hn : 1601 ≤ n0) (h : PR L s MX MY) (hA : At q b MX MY) (hN : NmR q b nt nc nd MX MY) : OutW L s MX MY (fX4_newName n0 MX) (fX12_fresh n0 MY) := by
  obtain ⟨m, rfl⟩ : ∃ m, n0 = m + 4 := ⟨n0 - 4, by omega⟩
  have e8 : gI MY 8 ≤ 0 := by rw [h.f8]; exact i00
  by_cases hb : gI MX 386 = 258
  · refine Or.inr ⟨sI (sI MX 391 1) 392 (gI MX 388), sI (sI MY 8 1) 9 (gI MX 388), 0, ?_, ?_, Flt.mk (k := 1) (by decide) (by decide), FIf, FYf⟩
    · unfold fX4_newName
      exact eq_n (eq_f (by rw [hb]; decide) (eq_b xfailH rfl))
    · unfold fX12_fresh
      exact eq_b (ylexB h hb) (eq_f (n8f (k := 1) (by decide) (by decide)) rfl)
  by_cases hk : gI MX 386 = 257
  · obtain ⟨h3, v, w, hw, e2, e3, hno⟩ := h.2.1.2.2.2.2.nm hk
    obtain ⟨r0, x0, y0, c0⟩ := find0 (n0 := m + 4) hn hA hN hw
    obtain ⟨r1, x1, y1, c1⟩ := find1 (n0 := m + 4) hn hA hN hw
    obtain ⟨r2, x2, y2, c2⟩ := find2d (n0 := m + 4) hn hA hN hw
    rw [← hA.1, ← e2] at x0 x1 x2
    rw [← e3] at y0 y1 y2
    have xf : fX8_fail (m + 4) 2 (gI MX 387) MX = some (0, sI (sI MX 391 2) 392 (nI s)) := by rw [h.st]; rfl
    have yb : fX12_blame (m + 4) 2 (gI MY 4) MY = some (sI (sI MY 8 2) 9 (nI s)) := by rw [h.at_]; exact yblame0 h.f8
    have lit1 : (0 : Int32) + 1 = 1 := by decide
    have lit2 : (1 : Int32) + 1 = 2 := by decide
    have lit3 : (2 : Int32) + 1 = 3 := by decide
    have y67 : ∀ u : Nat, loopN (bX12_fresh_43 (m + 4)) (fun _ _ => none) (u + 1) 3 MY = fX12_fresh_83 (m + 4) MY := fun u => by
      rw [lpS, bX12_fresh_43]
      exact eq_t (by decide) rfl
    have bad : (∃ i, i < 6 ∧ (r0 = nI i ∨ (r0 = -1 ∧ (r1 = nI i ∨ (r1 = -1 ∧ r2 = nI i))))) → OutW L s MX MY (fX4_newName (m + 4) MX) (fX12_fresh (m + 4) MY) := by
      rintro ⟨i, hi, g⟩
      have ni : ¬ nI i = -1 := nI_m1 (by omega)
      refine Or.inr ⟨sI (sI MX 391 2) 392 (nI s), sI (sI MY 8 2) 9 (nI s), gL (sI (sI MY 8 2) 9 (nI s)) 7, ?_, ?_, Flt.mk (k := 2) (by decide) (by decide), FIf, FYf⟩
      · unfold fX4_newName fX4_newName_67
        refine eq_n (eq_t hk (eq_b x0 ?_))
        rcases g with g | ⟨g0, g⟩
        · exact eq_f (by rw [g]; exact ni) (eq_b xf rfl)
        · refine eq_t g0 (eq_b x1 ?_)
          rcases g with g | ⟨g1, g⟩
          · exact eq_f (by rw [g]; exact ni) (eq_b xf rfl)
          · exact eq_t g1 (eq_b x2 (eq_f (by rw [g]; exact ni) (eq_b xf rfl)))
      · have n2 : ¬ gI (sI (sI MY 8 2) 9 (nI s)) 8 = 0 := pos_ne (n8f (k := 2) (by decide) (by decide))
        unfold fX12_fresh fX12_fresh_41 fX12_fresh_43
        refine eq_b (ylexG h hb) (eq_t e8 (eq_t h3 (eq_b (yOwn0 hno) (eq_t rfl ?_))))
        show loopN (bX12_fresh_43 (m + 4)) (fun _ _ => none) (m + 3 + 1) 0 MY = _
        rw [lpS, bX12_fresh_43]
        refine eq_f (by decide) (eq_t h.f8 (eq_b y0 ?_))
        unfold fX12_fresh_77
        rcases g with g | ⟨g0, g⟩
        · exact eq_f (by rw [g]; exact ni) (eq_b yb (yfl n2))
        · refine eq_t g0 ?_
          rw [lit1]
          show loopN (bX12_fresh_43 (m + 4)) (fun _ _ => none) (m + 2 + 1) 1 MY = _
          rw [lpS, bX12_fresh_43]
          refine eq_f (by decide) (eq_t h.f8 (eq_b y1 ?_))
          unfold fX12_fresh_77
          rcases g with g | ⟨g1, g⟩
          · exact eq_f (by rw [g]; exact ni) (eq_b yb (yfl n2))
          · refine eq_t g1 ?_
            rw [lit2]
            show loopN (bX12_fresh_43 (m + 4)) (fun _ _ => none) (m + 1 + 1) 2 MY = _
            rw [lpS, bX12_fresh_43]
            refine eq_f (by decide) (eq_t h.f8 (eq_b y2 ?_))
            unfold fX12_fresh_77
            exact eq_f (by rw [g]; exact ni) (eq_b yb (yfl n2))
    have t6 := hN.1.2.2.1
    have c5 := hN.2.1.2.2.1
    have d6 := hN.2.2.2.2.1
    rcases c0 with ⟨g0, _⟩ | ⟨i, hi, g⟩
    · rcases c1 with ⟨g1, _⟩ | ⟨i, hi, g⟩
      · rcases c2 with ⟨g2, _⟩ | ⟨i, hi, g⟩
        · obtain ⟨MX', MY', s', ax, ay, hs, hP, fx, fy⟩ := h.adv hn (h.2.1.2.2.2.2.lt (by rw [hk]; decide))
          refine Or.inl ⟨v, w, MX', MY', s', hw, ?_, ?_, hs, hP, fx.wk (by decide) (by decide), fy.Y⟩
          · unfold fX4_newName
            rw [← e2]
            exact eq_n (eq_t hk (eq_b x0 (eq_t g0 (eq_b x1 (eq_t g1 (eq_b x2 (eq_t g2 (eq_b ax rfl))))))))
          · unfold fX12_fresh fX12_fresh_41 fX12_fresh_43
            refine eq_b (ylexG h hb) (eq_t e8 (eq_t h3 (eq_b (yOwn0 hno) (eq_t rfl ?_))))
            show loopN (bX12_fresh_43 (m + 4)) (fun _ _ => none) (m + 3 + 1) 0 MY = _
            rw [lpS, bX12_fresh_43]
            refine eq_f (by decide) (eq_t h.f8 (eq_b y0 (eq_t g0 ?_)))
            unfold fX12_fresh_77
            rw [lit1]
            show loopN (bX12_fresh_43 (m + 4)) (fun _ _ => none) (m + 2 + 1) 1 MY = _
            rw [lpS, bX12_fresh_43]
            refine eq_f (by decide) (eq_t h.f8 (eq_b y1 (eq_t g1 ?_)))
            unfold fX12_fresh_77
            rw [lit2]
            show loopN (bX12_fresh_43 (m + 4)) (fun _ _ => none) (m + 1 + 1) 2 MY = _
            rw [lpS, bX12_fresh_43]
            refine eq_f (by decide) (eq_t h.f8 (eq_b y2 (eq_t g2 ?_)))
            unfold fX12_fresh_77
            rw [lit3]
            refine (y67 m).trans ?_
            unfold fX12_fresh_83
            rw [e3]
            exact eq_n (eq_t h.f8 (eq_b ay rfl))
        · exact bad ⟨i, by omega, Or.inr ⟨g0, Or.inr ⟨g1, g⟩⟩⟩
      · exact bad ⟨i, by omega, Or.inr ⟨g0, Or.inl g⟩⟩
    · exact bad ⟨i, by omega, Or.inl g⟩
  · refine Or.inr ⟨sI (sI MX 391 1) 392 (gI MX 388), sI (sI MY 8 1) 9 (gI MX 388), gL (sI (sI MY 8 1) 9 (gI MX 388)) 7, ?_, ?_, Flt.mk (k := 1) (by decide) (by decide), FIf, FYf⟩
    · unfold fX4_newName
      exact eq_n (eq_f hk (eq_b xfailH rfl))
    · have n2 : ¬ gI (sI (sI MY 8 1) 9 (gI MX 388)) 8 = 0 := pos_ne (n8f (k := 1) (by decide) (by decide))
      have tail : fX12_fresh_32 (m + 4) MY = some (gL (sI (sI MY 8 1) 9 (gI MX 388)) 7, sI (sI MY 8 1) 9 (gI MX 388)) := by
        unfold fX12_fresh_32 fX12_fresh_41 fX12_fresh_43
        rw [h.at_, h.pl hb]
        rw [h.pl hb] at n2
        exact eq_b (yblame0 h.f8) (yfl n2)
      unfold fX12_fresh
      refine eq_b (ylexG h hb) (eq_t e8 ?_)
      by_cases g : gI MY 3 = 1
      · rcases h.2.1.2.2.2.2.nn hb hk with q | q
        · exact absurd g q
        · exact eq_t g (eq_b (yOwn1 q) (eq_f i10 tail))
      · exact eq_f g tail
end
section
/-! STEPS OF BOTH READERS: names that are known -/
def Hs (m : Int32) (i : Nat) : Prop := ((m >>> (nI i &&& 31)) &&& (1 : Int32)) = (1 : Int32)
theorem yhas {n0 i : Nat} {m : Int32} {M : Mem} (h : Hs m i) : fX12_has2 n0 m (nI i) M = some (1, M) := by
  unfold fX12_has2
  exact eq_t h rfl
theorem yhasN {n0 i : Nat} {m : Int32} {M : Mem} (h : ¬ Hs m i) : fX12_has2 n0 m (nI i) M = some (0, M) := by
  unfold fX12_has2
  exact eq_f h rfl
theorem yk91F {n0 : Nat} {x : Int32} {M : Mem} (h : ¬ gI M 8 ≤ 0) : fX12_knownBut_91 n0 x M = some (0, M) := by
  unfold fX12_knownBut_91 fX12_knownBut_102
  exact eq_f (pos_ne h) (eq_f h rfl)
theorem yk41F {n0 : Nat} {x y : Int32} {M : Mem} (h : ¬ gI M 8 ≤ 0) : fX12_knownBut_41 n0 x y M = some (0, M) := by
  unfold fX12_knownBut_41 fX12_knownBut_61
  exact eq_f h (eq_f (pos_ne h) (yk91F h))
theorem ykF {n0 : Nat} {x y : Int32} {M : Mem} (h : ¬ gI M 8 ≤ 0) : fX12_knownBut n0 x y M = some (0, M) := by
  unfold fX12_knownBut
  exact eq_b (ylexF h) (eq_f h rfl)
theorem ykA {n0 L s : Nat} {x y : Int32} {MX MY : Mem} (h : PR L s MX MY) (hk : ¬ gI MX 386 = 257) : fX12_knownBut n0 x y MY = some (0, sI (sI MY 8 1) 9 (gI MX 388)) := by
  have n1 : ¬ gI (sI (sI MY 8 1) 9 (gI MX 388)) 8 ≤ 0 := n8f (k := 1) (by decide) (by decide)
  unfold fX12_knownBut
  by_cases hb : gI MX 386 = 258
  · exact eq_b (ylexB h hb) (eq_f n1 rfl)
  · have e8 : gI MY 8 ≤ 0 := by rw [h.f8]; exact i00
    have tail : fX12_knownBut_32 n0 x y MY = some (0, sI (sI MY 8 1) 9 (gI MX 388)) := by
      unfold fX12_knownBut_32
      rw [h.at_, h.pl hb]
      rw [h.pl hb] at n1
      exact eq_b (yblame0 h.f8) (yk41F n1)
    refine eq_b (ylexG h hb) (eq_t e8 ?_)
    by_cases g : gI MY 3 = 1
    · rcases h.2.1.2.2.2.2.nn hb hk with q | q
      · exact absurd g q
      · exact eq_t g (eq_b (yOwn1 q) (eq_f i10 tail))
    · exact eq_f g tail
theorem yk_in {n0 L s : Nat} {x y r : Int32} {MX MY : Mem} (h : PR L s MX MY) (hk : gI MX 386 = 257) (hr : fX12_named n0 x (gL MY 7) MY = some (r, MY)) : fX12_knownBut n0 x y MY = fX12_knownBut_61 n0 y r MY := by
  have hb : ¬ gI MX 386 = 258 := by rw [hk]; decide
  obtain ⟨h3, v, w, hw, e2, e3, hno⟩ := h.2.1.2.2.2.2.nm hk
  have e8 : gI MY 8 ≤ 0 := by rw [h.f8]; exact i00
  unfold fX12_knownBut fX12_knownBut_41
  exact eq_b (ylexG h hb) (eq_t e8 (eq_t h3 (eq_b (yOwn0 hno) (eq_t rfl (eq_t e8 (eq_b hr rfl))))))
theorem yk82 {n0 L s : Nat} {x : Int32} {MX MY : Mem} (h : PR L s MX MY) : fX12_knownBut_82 n0 x MY = some (0, sI (sI MY 8 3) 9 (nI s)) := by
  unfold fX12_knownBut_82
  rw [h.at_]
  exact eq_b (yblame0 h.f8) (yk91F (n8f (k := 3) (by decide) (by decide)))
theorem yk61a {n0 L s : Nat} {y : Int32} {MX MY : Mem} (h : PR L s MX MY) : fX12_knownBut_61 n0 y (-1) MY = some (0, sI (sI MY 8 3) 9 (nI s)) := by
  unfold fX12_knownBut_61
  exact eq_t h.f8 (eq_t rfl (yk82 h))
theorem yk61b {n0 L s i : Nat} {y : Int32} {MX MY : Mem} (h : PR L s MX MY) (hi : i < 6) (hh : Hs y i) : fX12_knownBut_61 n0 y (nI i) MY = some (0, sI (sI MY 8 3) 9 (nI s)) := by
  unfold fX12_knownBut_61
  exact eq_t h.f8 (eq_f (nI_m1 (by omega)) (eq_b (yhas hh) (eq_f i10 (yk82 h))))
theorem yk61c {n0 L s i : Nat} {y : Int32} {MX MY MY' : Mem} (h : PR L s MX MY) (hi : i < 6) (hh : ¬ Hs y i) (ha : fX12_ahead n0 MY = some MY') (h8 : gI MY' 8 = 0) : fX12_knownBut_61 n0 y (nI i) MY = some (nI i, MY') := by
  unfold fX12_knownBut_61 fX12_knownBut_91 fX12_knownBut_102
  exact eq_t h.f8 (eq_f (nI_m1 (by omega)) (eq_b (yhasN hh) (eq_t rfl (eq_t h.f8 (eq_b ha (eq_t (by rw [h8]; exact i00) rfl))))))
/-- a corner that is known -/
theorem corP {n0 L s q b nt nc nd : Nat} {MX MY : Mem} (y : Int32) (hn : 1601 ≤ n0) (h : PR L s MX MY) (hA : At q b MX MY) (hN : NmR q b nt nc nd MX MY) :
    (∃ MX' MY', fX4_cornerHere n0 MX = some (-1, MX') ∧ fX12_knownBut n0 1 y MY = some (0, MY') ∧ Flt MX' MY' ∧ FI 386 392 MX MX' ∧ FrY MY MY') ∨
    (∃ i, i < nc ∧ fX4_cornerHere n0 MX = some (nI i, MX) ∧ (Hs y i → fX12_knownBut n0 1 y MY = some (0, sI (sI MY 8 3) 9 (nI s))) ∧ (¬ Hs y i → ∃ MX' MY' s', fX8_advance n0 MX = some MX' ∧ fX12_knownBut n0 1 y MY = some (nI i, MY') ∧ s < s' ∧ PR L s' MX' MY' ∧ FI 386 392 MX MX' ∧ FrY MY MY')) := by
  by_cases hk : gI MX 386 = 257
  · obtain ⟨h3, v, w, hw, e2, e3, hno⟩ := h.2.1.2.2.2.2.nm hk
    obtain ⟨r1, x1, y1, c1⟩ := find1 (n0 := n0) hn hA hN hw
    rw [← hA.1, ← e2] at x1
    rw [← e3] at y1
    have xf : fX8_fail n0 3 (gI MX 387) MX = some (0, sI (sI MX 391 3) 392 (nI s)) := by rw [h.st]; rfl
    have c5 := hN.2.1.2.2.1
    rcases c1 with ⟨g1, _⟩ | ⟨i, hi, g1⟩
    · subst g1
      refine Or.inl ⟨sI (sI MX 391 3) 392 (nI s), sI (sI MY 8 3) 9 (nI s), ?_, ?_, Flt.mk (k := 3) (by decide) (by decide), FIf, FYf⟩
      · unfold fX4_cornerHere
        exact eq_t hk (eq_b x1 (eq_t rfl (eq_b xf rfl)))
      · rw [yk_in h hk y1]
        exact yk61a h
    · subst g1
      refine Or.inr ⟨i, hi, ?_, fun hh => ?_, fun hh => ?_⟩
      · unfold fX4_cornerHere
        exact eq_t hk (eq_b x1 (eq_f (nI_m1 (by omega)) rfl))
      · rw [yk_in h hk y1]
        exact yk61b h (by omega) hh
      · obtain ⟨MX', MY', s', ax, ay, hs, hP, fx, fy⟩ := h.adv hn (h.2.1.2.2.2.2.lt (by rw [hk]; decide))
        refine ⟨MX', MY', s', ax, ?_, hs, hP, fx.wk (by decide) (by decide), fy.Y⟩
        rw [yk_in h hk y1]
        exact yk61c h (by omega) hh ay hP.f8
  · refine Or.inl ⟨sI (sI MX 391 1) 392 (gI MX 388), sI (sI MY 8 1) 9 (gI MX 388), ?_, ykA h hk, Flt.mk (k := 1) (by decide) (by decide), FIf, FYf⟩
    unfold fX4_cornerHere
    exact eq_f hk (eq_b xfailH rfl)
theorem Hs0 {i : Nat} (hi : i < 6) : ¬ Hs 0 i := by
  have h : ∀ i, i < 6 → ¬ ((((0 : Int32) >>> (nI i &&& 31)) &&& (1 : Int32)) = (1 : Int32)) := by decide +kernel
  exact h i hi
/-- a thing that is known, as the class's readPalm does it -/
theorem thgP {n0 L s q b nt nc nd : Nat} {MX MY : Mem} (hn : 1601 ≤ n0) (h : PR L s MX MY) (hA : At q b MX MY) (hN : NmR q b nt nc nd MX MY) :
    (¬ gI MX 386 = 257 ∧ fX12_knownBut n0 0 0 MY = some (0, sI (sI MY 8 1) 9 (gI MX 388))) ∨
    (gI MX 386 = 257 ∧ fX9_findThing n0 (gR MX 130) (gI MX 389) MX = some (-1, MX) ∧ fX12_knownBut n0 0 0 MY = some (0, sI (sI MY 8 3) 9 (nI s))) ∨
    (gI MX 386 = 257 ∧ ∃ i, i < nt ∧ fX9_findThing n0 (gR MX 130) (gI MX 389) MX = some (nI i, MX) ∧ ∃ MX' MY' s', fX8_advance n0 MX = some MX' ∧ fX12_knownBut n0 0 0 MY = some (nI i, MY') ∧ s < s' ∧ PR L s' MX' MY' ∧ FI 386 392 MX MX' ∧ FrY MY MY') := by
  by_cases hk : gI MX 386 = 257
  · obtain ⟨h3, v, w, hw, e2, e3, hno⟩ := h.2.1.2.2.2.2.nm hk
    obtain ⟨r1, x1, y1, c1⟩ := find0 (n0 := n0) hn hA hN hw
    rw [← hA.1, ← e2] at x1
    rw [← e3] at y1
    have c5 := hN.1.2.2.1
    rcases c1 with ⟨g1, _⟩ | ⟨i, hi, g1⟩
    · subst g1
      refine Or.inr (Or.inl ⟨hk, x1, ?_⟩)
      rw [yk_in h hk y1]
      exact yk61a h
    · subst g1
      obtain ⟨MX', MY', s', ax, ay, hs, hP, fx, fy⟩ := h.adv hn (h.2.1.2.2.2.2.lt (by rw [hk]; decide))
      refine Or.inr (Or.inr ⟨hk, i, hi, x1, MX', MY', s', ax, ?_, hs, hP, fx.wk (by decide) (by decide), fy.Y⟩)
      rw [yk_in h hk y1]
      exact yk61c h (by omega) (Hs0 (by omega)) ay hP.f8
  · exact Or.inl ⟨hk, ykA h hk⟩
/-- the first word of a statement -/
theorem fstP {n0 L s : Nat} {full : Prop} [Decidable full] {MX MY : Mem} (hn : 1601 ≤ n0) (h : PR L s MX MY) (hb : ¬ gI MX 386 = 259) (hb2 : ¬ gI MX 386 = 258) :
    (full → fX4_skipFirst n0 (bI (¬ full)) MX = some (0, sI (sI MX 391 6) 392 (nI s)) ∧ fX12_counts n0 (bI full) MY = some (0, sI (sI MY 8 6) 9 (nI s))) ∧
    (¬ full → ∃ MX' MY' s', fX4_skipFirst n0 (bI (¬ full)) MX = some (1, MX') ∧ fX12_counts n0 (bI full) MY = some (1, MY') ∧ s < s' ∧ PR L s' MX' MY' ∧ FI 386 392 MX MX' ∧ FrY MY MY') := by
  constructor
  · intro hf
    constructor
    · unfold fX4_skipFirst
      rw [h.st]
      exact eq_t (bI_f (fun g => g hf)) (eq_b xfail (eq_t (Or.inl rfl) rfl))
    · have n6 : ¬ gI (sI (sI MY 8 6) 9 (nI s)) 8 = 0 := pos_ne (n8f (k := 6) (by decide) (by decide))
      unfold fX12_counts fX12_counts_21 fX12_counts_32
      rw [h.at_]
      exact eq_t h.f8 (eq_f (bz hf) (eq_b (yblame0 h.f8) (eq_f n6 (eq_f n6 rfl))))
  · intro hf
    obtain ⟨MX', MY', s', ax, ay, hs, hP, fx, fy⟩ := h.adv hn (h.2.1.2.2.2.2.lt hb)
    refine ⟨MX', MY', s', ?_, ?_, hs, hP, fx.wk (by decide) (by decide), fy.Y⟩
    · unfold fX4_skipFirst
      exact eq_f (bz hf) (eq_b ax rfl)
    · unfold fX12_counts fX12_counts_21 fX12_counts_32
      exact eq_t h.f8 (eq_t (bI_f hf) (eq_t h.f8 (eq_b ay (eq_t hP.f8 rfl))))
end
section
/-! A TOWN ON BOTH SIDES: its place q in the class, its bank b in the reference; what reading into it may change -/
def regA (b a i : Nat) : Prop := ((a = 2 ∨ a = 5 ∨ a = 7 ∨ a = 10 ∨ a = 13) ∧ i = b) ∨ ((a = 3 ∨ a = 4 ∨ a = 11 ∨ a = 12) ∧ 6 * b ≤ i ∧ i < 6 * b + 6) ∨ (a = 6 ∧ 5 * b ≤ i ∧ i < 5 * b + 5) ∨ ((a = 8 ∨ a = 9) ∧ 25 * b ≤ i ∧ i < 25 * b + 25) ∨ ((a = 14 ∨ a = 15) ∧ 2 * b ≤ i ∧ i < 2 * b + 2) ∨ ((a = 16 ∨ a = 17) ∧ 1600 * b ≤ i ∧ i < 1600 * b + 1600) ∨ (21 ≤ a ∧ a ≤ 26)
def regB (b a i : Nat) : Prop := ((a = 18 ∨ a = 20) ∧ 6 * b ≤ i ∧ i < 6 * b + 6) ∨ (a = 19 ∧ 5 * b ≤ i ∧ i < 5 * b + 5)
def regI (k : Nat) : Prop := (3 ≤ k ∧ k ≤ 9) ∨ k = 12 ∨ k = 33 ∨ k = 35 ∨ k = 41 ∨ k = 42 ∨ k = 44 ∨ k = 45
/-- what the reference may change while it reads into bank b -/
def FY2 (b : Nat) (M M' : Mem) : Prop := (∀ k, ¬ regI k → gI M' k = gI M k) ∧ (∀ a i, ¬ regA b a i → gA M' a i = gA M a i) ∧ (∀ k, k ≠ 7 → gL M' k = gL M k) ∧ (∀ a i, ¬ regB b a i → gB M' a i = gB M a i)
theorem FY2.r {b : Nat} {M : Mem} : FY2 b M M := ⟨fun _ _ => rfl, fun _ _ _ => rfl, fun _ _ => rfl, fun _ _ _ => rfl⟩
theorem FY2.tr {b : Nat} {M M' M2 : Mem} (h : FY2 b M M') (g : FY2 b M' M2) : FY2 b M M2 := ⟨fun k q => (g.1 k q).trans (h.1 k q), fun a i q => (g.2.1 a i q).trans (h.2.1 a i q), fun k q => (g.2.2.1 k q).trans (h.2.2.1 k q), fun a i q => (g.2.2.2 a i q).trans (h.2.2.2 a i q)⟩
theorem FrY.b {b : Nat} {M M' : Mem} (h : FrY M M') : FY2 b M M' := ⟨fun k q => h.1 k (fun g => q (by unfold regI; omega)), fun a i _ => by rw [h.2.1 a id], fun k q => h.2.2.2.1 k q, fun a i _ => by rw [h.2.2.2.2 a id]⟩
theorem FY2.i {b k : Nat} {v : Int32} {M M' : Mem} (h : FY2 b M M') (hk : regI k) : FY2 b M (sI M' k v) := ⟨fun j q => by rw [gI_ne (fun e => q (by rw [e]; exact hk))]; exact h.1 j q, h.2.1, h.2.2.1, h.2.2.2⟩
theorem FY2.a {b a i : Nat} {v : Int32} {M M' : Mem} (h : FY2 b M M') (hk : regA b a i) : FY2 b M (sA M' a i v) := ⟨h.1, fun c j q => by
  rw [gA_sA]
  by_cases e : c = a
  · subst e
    rw [if_pos rfl, if_neg (fun e => q (by rw [e]; exact hk))]
    exact h.2.1 _ _ q
  · rw [if_neg e]
    exact h.2.1 _ _ q, h.2.2.1, h.2.2.2⟩
theorem FY2.bb {b a i : Nat} {v : Int64} {M M' : Mem} (h : FY2 b M M') (hk : regB b a i) : FY2 b M (sB M' a i v) := ⟨h.1, h.2.1, h.2.2.1, fun c j q => by
  rw [gB_sB]
  by_cases e : c = a
  · subst e
    rw [if_pos rfl, if_neg (fun e => q (by rw [e]; exact hk))]
    exact h.2.2.2 _ _ q
  · rw [if_neg e]
    exact h.2.2.2 _ _ q⟩
def rgX (q j : Nat) : Prop := (386 ≤ j ∧ j ≤ 392) ∨ j = 258 ∨ (128 * q < j ∧ j < 128 * q + 2048)
/-- what the class may change while it reads into the town at q -/
def FX2 (q : Nat) (M M' : Mem) : Prop := (∀ k, ¬ rgX q k → gI M' k = gI M k) ∧ (∀ a, ¬ (q ≤ a ∧ a < q + 16) → gA M' a = gA M a) ∧ (∀ k, k ≠ 257 → gR M' k = gR M k)
theorem FX2.r {q : Nat} {M : Mem} : FX2 q M M := ⟨fun _ _ => rfl, fun _ _ => rfl, fun _ _ => rfl⟩
theorem FX2.tr {q : Nat} {M M' M2 : Mem} (h : FX2 q M M') (g : FX2 q M' M2) : FX2 q M M2 := ⟨fun k r => (g.1 k r).trans (h.1 k r), fun a r => (g.2.1 a r).trans (h.2.1 a r), fun k r => (g.2.2 k r).trans (h.2.2 k r)⟩
theorem FI.q {q : Nat} {M M' : Mem} (h : FI 386 392 M M') : FX2 q M M' := ⟨fun k r => h.2 k (by unfold rgX at r; omega), fun a _ => by rw [h.A], fun k _ => by rw [h.R]⟩
theorem FX2.i {q k : Nat} {v : Int32} {M M' : Mem} (h : FX2 q M M') (hk : rgX q k) : FX2 q M (sI M' k v) := ⟨fun j r => by rw [gI_ne (fun e => r (by rw [e]; exact hk))]; exact h.1 j r, h.2.1, h.2.2⟩
theorem FX2.a {q a i : Nat} {v : Int32} {M M' : Mem} (h : FX2 q M M') (hk : q ≤ a ∧ a < q + 16) : FX2 q M (sA M' a i v) := ⟨h.1, fun c r => by rw [gA_sA_ne (fun e => r (by rw [e]; exact hk))]; exact h.2.1 c r, h.2.2⟩
-- the parts of a town
def ThD (nt : Nat) (w l wy ly : Nat → Int32) : Prop := ∀ i, i < nt → w i = wy i ∧ (∃ v, v ≤ 99 ∧ w i = nI v) ∧ l i = ly i ∧ ∃ v, 1 ≤ v ∧ v ≤ 99 ∧ l i = nI v
def PmD (nt nc : Nat) (p py : Nat → Int32) : Prop := ∀ i, i < nc → p i = py i ∧ (p i = -1 ∨ ∃ t, t < nt ∧ p i = nI t)
def DoD (nc nd : Nat) (c h cy hy : Nat → Int32) : Prop := ∀ i, i < nd → c i = cy i ∧ (∃ k, k < nc ∧ c i = nI k) ∧ h i = hy i ∧ ∃ v, v ≤ 23 ∧ h i = nI v
def Jn (f t : Nat → Int32) (k a c : Nat) : Prop := (f k = nI a ∧ t k = nI c) ∨ (f k = nI c ∧ t k = nI a)
def RdD (nc nr : Nat) (f t n : Nat → Int32) (sy : Nat → Int32) : Prop := nr ≤ 10 ∧ (∀ k, k < nr → ∃ a c v, a < nc ∧ c < nc ∧ a ≠ c ∧ 1 ≤ v ∧ v ≤ 30 ∧ f k = nI a ∧ t k = nI c ∧ n k = nI v) ∧ ∀ a c, a < 5 → c < 5 → (sy (5 * a + c) = 0 ∧ ∀ k, k < nr → ¬ Jn f t k a c) ∨ ∃ k, k < nr ∧ Jn f t k a c ∧ sy (5 * a + c) = n k
/-- what a code of the reference is to the class -/
def exS (s : Int32) : Int32 := if s = 1 then -1 else if s = 2 then -2 else if s = 3 then -3 else if s = 4 then -4 else if s = 5 then -5 else if s = 6 then -6 else if s = 30 then 1 else if s = 31 then -7 else if s = 32 then -8 else if s = 33 then -9 else if s = 34 then -10 else if s = 35 then -11 else if s = 36 then -12 else if s = 37 then -13 else if s = 38 then -15 else if s = 39 then -16 else if s = 40 then -17 else if s = 41 then -18 else if s = 42 then -19 else -14
def ex1 (c : Int32 × Int32) : List Int32 := if c.1 = 0 then [c.2] else if c.1 = 43 then [0, -17] else [exS c.1]
def exL (δ : List (Int32 × Int32)) : List Int32 := δ.flatMap ex1
/-- the kinds of what waits (true: a TEST's answer), code by code; at most 60 wait -/
def ty1 (c : Int32 × Int32) (st : List Bool) : Option (List Bool) :=
  if c.1 = 0 then (if st.length < 60 ∧ 0 ≤ c.2 ∧ c.2 ≤ 9999 then some (false :: st) else none)
  else if c.1 = 1 ∨ c.1 = 2 ∨ c.1 = 3 ∨ c.1 = 4 ∨ c.1 = 5 ∨ c.1 = 6 then (if st.length < 60 then some (false :: st) else none)
  else if c.1 = 30 then (if st.length < 60 then some (true :: st) else none)
  else if c.1 = 31 ∨ c.1 = 32 ∨ c.1 = 33 ∨ c.1 = 34 ∨ c.1 = 35 ∨ c.1 = 36 ∨ c.1 = 37 then (match st with | false :: false :: r => some (false :: r) | _ => none)
  else if c.1 = 38 ∨ c.1 = 39 ∨ c.1 = 40 then (match st with | false :: false :: r => some (true :: r) | _ => none)
  else if c.1 = 41 ∨ c.1 = 42 then (match st with | true :: true :: r => some (true :: r) | _ => none)
  else if c.1 = 43 then (match st with | true :: r => if r.length < 59 then some (true :: r) else none | _ => none)
  else if c.1 = 44 then (match st with | false :: false :: true :: r => some (false :: r) | _ => none)
  else none
def tyL : List (Int32 × Int32) → List Bool → Option (List Bool)
  | [], st => some st
  | c :: δ, st => (ty1 c st).bind (tyL δ)
/-- the formula at qf of the class (its steps) -/
def xlist (M : Mem) (qf : Nat) (l : List Int32) : Prop := gI M (128 * qf + 1) = nI l.length ∧ ∀ i (h : i < l.length), gA M (qf + 1) i = l[i]
/-- codes of the reference from c0 on -/
def ylist (M : Mem) (b c0 : Nat) (l : List (Int32 × Int32)) : Prop := ∀ i (h : i < l.length), gA M 16 (1600 * b + (c0 + i)) = l[i].1 ∧ gA M 17 (1600 * b + (c0 + i)) = l[i].2
def FmR (q b C wh : Nat) (MX MY : Mem) : Prop :=
  (gI MX (128 * (q + 12 + 2 * wh) + 1) = 0 ∧ gA MY 14 (2 * b + wh) = -1) ∨
  (∃ c0 δ, 0 < δ.length ∧ c0 + δ.length ≤ C ∧ xlist MX (q + 12 + 2 * wh) (exL δ) ∧ gA MY 14 (2 * b + wh) = nI c0 ∧ gA MY 15 (2 * b + wh) = nI (c0 + δ.length) ∧ ylist MY b c0 δ ∧ tyL δ [] = some [decide (wh = 1)] ∧ (exL δ).length ≤ 1600)
def TownR (q b nt nc nd nr C : Nat) (MX MY : Mem) : Prop :=
  NmR q b nt nc nd MX MY ∧
  ThD nt (gA MX (q + 2)) (gA MX (q + 3)) (fun i => gA MY 3 (6 * b + i)) (fun i => gA MY 4 (6 * b + i)) ∧
  PmD nt nc (gA MX (q + 5)) (fun i => gA MY 6 (5 * b + i)) ∧
  DoD nc nd (gA MX (q + 10)) (gA MX (q + 11)) (fun i => gA MY 11 (6 * b + i)) (fun i => gA MY 12 (6 * b + i)) ∧
  (gI MX (128 * q + 8) = nI nr ∧ gA MY 7 b = nI nr ∧ RdD nc nr (gA MX (q + 6)) (gA MX (q + 7)) (gA MX (q + 8)) (fun i => gA MY 8 (25 * b + i))) ∧
  (∃ p, p ≤ 100 ∧ gI MX (128 * q + 16) = nI p ∧ gA MY 13 b = nI p) ∧
  FmR q b C 0 MX MY ∧ FmR q b C 1 MX MY ∧ C ≤ 1600
/-- cells of a town that tell nothing yet -/
def frX (q nt nc nd nr a i : Nat) : Prop := ((a = q + 1 ∨ a = q + 2 ∨ a = q + 3) ∧ nt ≤ i) ∨ ((a = q + 4 ∨ a = q + 5) ∧ nc ≤ i) ∨ ((a = q + 6 ∨ a = q + 7 ∨ a = q + 8) ∧ nr ≤ i) ∨ ((a = q + 9 ∨ a = q + 10 ∨ a = q + 11) ∧ nd ≤ i)
def frYa (b nt nc nd C a i : Nat) : Prop := ((a = 3 ∨ a = 4) ∧ 6 * b + nt ≤ i) ∨ (a = 6 ∧ 5 * b + nc ≤ i) ∨ ((a = 11 ∨ a = 12) ∧ 6 * b + nd ≤ i) ∨ ((a = 16 ∨ a = 17) ∧ 1600 * b + C ≤ i)
def frYb (b nt nc nd a i : Nat) : Prop := (a = 18 ∧ 6 * b + nt ≤ i) ∨ (a = 19 ∧ 5 * b + nc ≤ i) ∨ (a = 20 ∧ 6 * b + nd ≤ i)
theorem TownR.fine {q b nt nc nd nr C : Nat} {MX MY MX' MY' : Mem} (h : TownR q b nt nc nd nr C MX MY) (h1 : ∀ j, 128 * q < j → j < 128 * q + 2048 → gI MX' j = gI MX j) (h2 : ∀ a i, q ≤ a → a < q + 16 → ¬ frX q nt nc nd nr a i → gA MX' a i = gA MX a i) (h3 : ∀ a i, ¬ (21 ≤ a) → regA b a i → ¬ frYa b nt nc nd C a i → gA MY' a i = gA MY a i) (h4 : ∀ a i, regB b a i → ¬ frYb b nt nc nd a i → gB MY' a i = gB MY a i) : TownR q b nt nc nd nr C MX' MY' := by
  obtain ⟨⟨⟨a1, a2, a3⟩, ⟨a4, a5, a6⟩, ⟨a7, a8, a9⟩⟩, b1, b2, b3, ⟨c1, c2, c3⟩, ⟨p, p1, p2, p3⟩, d1, d2, d3⟩ := h
  have t6 := a3.1
  have c5 := a6.1
  have d6 := a9.1
  refine ⟨⟨⟨?_, ?_, ?_⟩, ⟨?_, ?_, ?_⟩, ⟨?_, ?_, ?_⟩⟩, ?_, ?_, ?_, ⟨?_, ?_, ?_⟩, ⟨p, p1, ?_, ?_⟩, ?_, ?_, d3⟩
  · rw [h1 _ (by omega) (by omega)]; exact a1
  · rw [h3 _ _ (by omega) (by unfold regA; omega) (by unfold frYa; omega)]; exact a2
  · refine ⟨a3.1, fun i hi => ?_⟩
    dsimp only
    rw [h2 _ _ (by omega) (by omega) (by unfold frX; omega), h4 18 (6 * b + i) (by unfold regB; omega) (by unfold frYb; omega)]
    exact a3.2 i hi
  · rw [h1 _ (by omega) (by omega)]; exact a4
  · rw [h3 _ _ (by omega) (by unfold regA; omega) (by unfold frYa; omega)]; exact a5
  · refine ⟨a6.1, fun i hi => ?_⟩
    dsimp only
    rw [h2 _ _ (by omega) (by omega) (by unfold frX; omega), h4 19 (5 * b + i) (by unfold regB; omega) (by unfold frYb; omega)]
    exact a6.2 i hi
  · rw [h1 _ (by omega) (by omega)]; exact a7
  · rw [h3 _ _ (by omega) (by unfold regA; omega) (by unfold frYa; omega)]; exact a8
  · refine ⟨a9.1, fun i hi => ?_⟩
    dsimp only
    rw [h2 _ _ (by omega) (by omega) (by unfold frX; omega), h4 20 (6 * b + i) (by unfold regB; omega) (by unfold frYb; omega)]
    exact a9.2 i hi
  · intro i hi
    dsimp only
    rw [h2 (q + 2) i (by omega) (by omega) (by unfold frX; omega), h2 (q + 3) i (by omega) (by omega) (by unfold frX; omega), h3 3 (6 * b + i) (by omega) (by unfold regA; omega) (by unfold frYa; omega), h3 4 (6 * b + i) (by omega) (by unfold regA; omega) (by unfold frYa; omega)]
    exact b1 i hi
  · intro i hi
    dsimp only
    rw [h2 (q + 5) i (by omega) (by omega) (by unfold frX; omega), h3 6 (5 * b + i) (by omega) (by unfold regA; omega) (by unfold frYa; omega)]
    exact b2 i hi
  · intro i hi
    dsimp only
    rw [h2 (q + 10) i (by omega) (by omega) (by unfold frX; omega), h2 (q + 11) i (by omega) (by omega) (by unfold frX; omega), h3 11 (6 * b + i) (by omega) (by unfold regA; omega) (by unfold frYa; omega), h3 12 (6 * b + i) (by omega) (by unfold regA; omega) (by unfold frYa; omega)]
    exact b3 i hi
  · rw [h1 _ (by omega) (by omega)]; exact c1
  · rw [h3 _ _ (by omega) (by unfold regA; omega) (by unfold frYa; omega)]; exact c2
  · have jn : ∀ k, k < nr → ∀ a c, Jn (gA MX' (q + 6)) (gA MX' (q + 7)) k a c ↔ Jn (gA MX (q + 6)) (gA MX (q + 7)) k a c := fun k hk a c => by
      unfold Jn
      rw [h2 (q + 6) k (by omega) (by omega) (by unfold frX; omega), h2 (q + 7) k (by omega) (by omega) (by unfold frX; omega)]
    refine ⟨c3.1, fun k hk => ?_, fun a c ha hc => ?_⟩
    · rw [h2 (q + 6) k (by omega) (by omega) (by unfold frX; omega), h2 (q + 7) k (by omega) (by omega) (by unfold frX; omega), h2 (q + 8) k (by omega) (by omega) (by unfold frX; omega)]
      exact c3.2.1 k hk
    · dsimp only
      rw [h3 8 (25 * b + (5 * a + c)) (by omega) (by unfold regA; omega) (by unfold frYa; omega)]
      rcases c3.2.2 a c ha hc with ⟨g1, g2⟩ | ⟨k, g1, g2, g3⟩
      · exact Or.inl ⟨g1, fun k hk g => g2 k hk ((jn k hk a c).mp g)⟩
      · exact Or.inr ⟨k, g1, (jn k g1 a c).mpr g2, by rw [h2 (q + 8) k (by omega) (by omega) (by unfold frX; omega)]; exact g3⟩
  · rw [h1 _ (by omega) (by omega)]; exact p2
  · rw [h3 _ _ (by omega) (by unfold regA; omega) (by unfold frYa; omega)]; exact p3
  · unfold FmR xlist at d1 ⊢
    rw [h1 _ (by omega) (by omega), h3 14 _ (by omega) (by unfold regA; omega) (by unfold frYa; omega), h3 15 _ (by omega) (by unfold regA; omega) (by unfold frYa; omega)]
    rcases d1 with d1 | ⟨c0, δ, e1, e2, e3, e4, e5, e6, e7, e8⟩
    · exact Or.inl d1
    · refine Or.inr ⟨c0, δ, e1, e2, ⟨e3.1, fun i hi => ?_⟩, e4, e5, fun i hi => ?_, e7, e8⟩
      · rw [h2 _ _ (by omega) (by omega) (by unfold frX; omega)]
        exact e3.2 i hi
      · rw [h3 16 _ (by omega) (by unfold regA; omega) (by unfold frYa; omega), h3 17 _ (by omega) (by unfold regA; omega) (by unfold frYa; omega)]
        exact e6 i hi
  · unfold FmR xlist at d2 ⊢
    rw [h1 _ (by omega) (by omega), h3 14 _ (by omega) (by unfold regA; omega) (by unfold frYa; omega), h3 15 _ (by omega) (by unfold regA; omega) (by unfold frYa; omega)]
    rcases d2 with d1 | ⟨c0, δ, e1, e2, e3, e4, e5, e6, e7, e8⟩
    · exact Or.inl d1
    · refine Or.inr ⟨c0, δ, e1, e2, ⟨e3.1, fun i hi => ?_⟩, e4, e5, fun i hi => ?_, e7, e8⟩
      · rw [h2 _ _ (by omega) (by omega) (by unfold frX; omega)]
        exact e3.2 i hi
      · rw [h3 16 _ (by omega) (by unfold regA; omega) (by unfold frYa; omega), h3 17 _ (by omega) (by unfold regA; omega) (by unfold frYa; omega)]
        exact e6 i hi
theorem TownR.cong {q b nt nc nd nr C : Nat} {MX MY MX' MY' : Mem} (h : TownR q b nt nc nd nr C MX MY) (h1 : ∀ j, 128 * q < j → j < 128 * q + 2048 → gI MX' j = gI MX j) (h2 : ∀ a, q ≤ a → a < q + 16 → gA MX' a = gA MX a) (h3 : ∀ a i, ¬ (21 ≤ a) → regA b a i → gA MY' a i = gA MY a i) (h4 : ∀ a i, regB b a i → gB MY' a i = gB MY a i) : TownR q b nt nc nd nr C MX' MY' :=
  h.fine h1 (fun a i g1 g2 _ => by rw [h2 a g1 g2]) (fun a i g1 g2 _ => h3 a i g1 g2) (fun a i g1 _ => h4 a i g1)
/-- steps of the token leave a town as it is -/
theorem TownR.tok {q b nt nc nd nr C : Nat} {MX MY MX' MY' : Mem} (h : TownR q b nt nc nd nr C MX MY) (hq : q = 31 ∨ q = 47) (hx : FI 386 392 MX MX') (hy : FrY MY MY') : TownR q b nt nc nd nr C MX' MY' :=
  h.cong (fun j h1 _ => hx.2 j (by omega)) (fun a _ _ => by rw [hx.A]) (fun a i _ _ => by rw [hy.2.1 a id]) (fun a i _ => by rw [hy.2.2.2.2 a id])
/-- reading into one town leaves the other as it is -/
theorem TownR.other {q b q' b' nt nc nd nr C : Nat} {MX MY MX' MY' : Mem} (h : TownR q b nt nc nd nr C MX MY) (hq : (q = 31 ∧ q' = 47) ∨ (q = 47 ∧ q' = 31)) (hb : (b = 0 ∧ b' = 1) ∨ (b = 1 ∧ b' = 0)) (hx : FX2 q' MX MX') (hy : FY2 b' MY MY') : TownR q b nt nc nd nr C MX' MY' :=
  h.cong (fun j h1 h2 => hx.1 j (by unfold rgX; omega)) (fun a h1 h2 => hx.2.1 a (by omega)) (fun a i h1 h2 => hy.2.1 a i (by unfold regA at h2 ⊢; omega)) (fun a i h2 => hy.2.2.2 a i (by unfold regB at h2 ⊢; omega))
theorem Flt.cong {MX MY MX' MY' : Mem} (h : Flt MX MY) (h1 : gI MX' 391 = gI MX 391) (h2 : gI MX' 392 = gI MX 392) (h3 : gI MY' 8 = gI MY 8) (h4 : gI MY' 9 = gI MY 9) : Flt MX' MY' := by
  unfold Flt at h ⊢
  rw [h1, h2, h3, h4]
  exact h
theorem At.fr {q b : Nat} {MX MY MX' MY' : Mem} (h : At q b MX MY) (hx : FX2 q MX MX') (hy : FY2 b MY MY') : At q b MX' MY' := ⟨(hx.2.2 130 (by decide)).trans h.1, h.2.1, (hy.1 34 (by unfold regI; omega)).trans h.2.2.1, h.2.2.2⟩
end
section
/-! STATEMENTS: thing, corner -/
/-- the state of reading a town -/
def Rd (L s q b nt nc nd nr C : Nat) (MX MY : Mem) : Prop := PR L s MX MY ∧ At q b MX MY ∧ TownR q b nt nc nd nr C MX MY ∧ gI MY 33 = nI C ∧ C ≤ s
def StO (L s q b : Nat) (MX MY : Mem) (rx : Option (Int32 × Mem)) (ry : Option Mem) : Prop :=
  (∃ MX' MY' s' nt nc nd nr C, rx = some (1, MX') ∧ ry = some MY' ∧ s < s' ∧ Rd L s' q b nt nc nd nr C MX' MY' ∧ FX2 q MX MX' ∧ FY2 b MY MY') ∨
  (∃ MX' MY', rx = some (0, MX') ∧ ry = some MY' ∧ Flt MX' MY' ∧ FX2 q MX MX' ∧ FY2 b MY MY')
/-- a faulty reader goes on and does no harm -/
def FT (b : Nat) (M : Mem) (o : Option Mem) : Prop := ∃ M', o = some M' ∧ gI M' 8 = gI M 8 ∧ gI M' 9 = gI M 9 ∧ FY2 b M M'
theorem FT.stO {L s q b : Nat} {MX MY MX' M : Mem} {rx : Option (Int32 × Mem)} {ry : Option Mem} (hf : Flt MX' M) (hx : rx = some (0, MX')) (h : FT b M ry) (fx : FX2 q MX MX') (fy : FY2 b MY M) : StO L s q b MX MY rx ry := by
  obtain ⟨M', e, h8, h9, g⟩ := h
  exact Or.inr ⟨MX', M', hx, e, hf.cong rfl rfl h8 h9, fx, fy.tr g⟩
theorem TownR.bumpT {q b nt nc nd nr C v w v2 v3 : Nat} {MX MY : Mem} (h : TownR q b nt nc nd nr C MX MY) (ht : nt < 6) (hw : WR v w) (x1 : gA MX (q + 1) nt = nI v) (y1 : gB MY 18 (6 * b + nt) = lN w) (x2 : gA MX (q + 2) nt = nI v2) (y2 : gA MY 3 (6 * b + nt) = nI v2) (h2 : v2 ≤ 99) (x3 : gA MX (q + 3) nt = nI v3) (y3 : gA MY 4 (6 * b + nt) = nI v3) (h3 : 1 ≤ v3 ∧ v3 ≤ 99) : TownR q b (nt + 1) nc nd nr C (sI MX (128 * q + 1) (nI (nt + 1))) (sA MY 2 b (nI (nt + 1))) := by
  obtain ⟨⟨⟨a1, a2, a3⟩, ⟨a4, a5, a6⟩, ⟨a7, a8, a9⟩⟩, b1, b2, b3, ⟨c1, c2, c3⟩, ⟨p, p1, p2, p3⟩, d1, d2, d3⟩ := h
  refine ⟨⟨⟨gI_at, ?_, ⟨by omega, fun i hi => ?_⟩⟩, ⟨?_, a5, a6⟩, ⟨?_, a8, a9⟩⟩, fun i hi => ?_, fun i hi => ?_, b3, ⟨?_, c2, c3⟩, ⟨p, p1, ?_, p3⟩, ?_, ?_, d3⟩
  · rw [gA_sA, if_pos rfl, if_pos rfl]
  · by_cases e : i = nt
    · subst e; exact ⟨v, w, hw, x1, y1⟩
    · exact a3.2 i (by omega)
  · rw [gI_ne (by omega)]; exact a4
  · rw [gI_ne (by omega)]; exact a7
  · by_cases e : i = nt
    · subst e; exact ⟨x2.trans y2.symm, ⟨v2, h2, x2⟩, x3.trans y3.symm, v3, h3.1, h3.2, x3⟩
    · exact b1 i (by omega)
  · obtain ⟨g1, g2⟩ := b2 i hi
    refine ⟨g1, ?_⟩
    rcases g2 with g2 | ⟨t, g2, g3⟩
    · exact Or.inl g2
    · exact Or.inr ⟨t, by omega, g3⟩
  · rw [gI_ne (by omega)]; exact c1
  · rw [gI_ne (by omega)]; exact p2
  · unfold FmR xlist at d1 ⊢
    rw [gI_ne (by omega)]
    exact d1
  · unfold FmR xlist at d2 ⊢
    rw [gI_ne (by omega)]
    exact d2
def yT4 (n0 : Nat) (k : Int32) (z91 : Int32 × Mem) : Option Mem :=
  if oob k 12 then none else
  bnd (sA z91.2 4 (Int32.toNatClampNeg k) z91.1) fun M94 =>
  if (gI M94 8) = 0 then
    if oob (gI M94 34) 2 then none else
    if oob (gI M94 34) 2 then none else
    some (sA M94 2 (Int32.toNatClampNeg (gI M94 34)) ((gA M94 2 (Int32.toNatClampNeg (gI M94 34))) + (1 : Int32)))
  else
    some M94
def yT3 (n0 : Nat) (k : Int32) (z71 : Int32 × Mem) : Option Mem :=
  if oob k 12 then none else
  bnd (sA z71.2 3 (Int32.toNatClampNeg k) z71.1) fun M74 =>
  (fX12_must_ n0 (465491424371 : Int64) M74).bind fun z79 =>
  (fX12_number n0 (1 : Int32) (99 : Int32) z79).bind (yT4 n0 k)
def yT1 (n0 : Nat) (k : Int32) (z51 : Int64 × Mem) : Option Mem :=
  if oob k 12 then none else
  bnd (sB z51.2 18 (Int32.toNatClampNeg k) z51.1) fun M54 =>
  (fX12_must_ n0 (512802514792 : Int64) M54).bind fun z59 =>
  (fX12_number n0 (0 : Int32) (99 : Int32) z59).bind (yT3 n0 k)
theorem thg_eq {n0 : Nat} {u1 : Int32} {M : Mem} : fX12_thinging_20 n0 u1 M = (fX12_counts n0 u1 M).bind fun z20 => if z20.1 = 0 then some z20.2 else if oob (gI z20.2 34) 2 then none else bnd (((6 : Int32) * (gI z20.2 34)) + (gA z20.2 2 (Int32.toNatClampNeg (gI z20.2 34)))) fun k => (fX12_fresh n0 z20.2).bind (yT1 n0 k) := rfl
section TH
variable {n0 b k : Nat} {M : Mem} (hk : 6 * b ≤ k ∧ k < 6 * b + 6) (hb : b ≤ 1)
theorem yT4F {u : Int32} (hk : 6 * b ≤ k ∧ k < 6 * b + 6) (hb : b ≤ 1) (h : ¬ gI M 8 ≤ 0) : FT b M (yT4 n0 (nI k) (u, M)) := by
  have hc : (nI k).toNatClampNeg = k := nI_clamp (by omega)
  refine ⟨sA M 4 k u, ?_, rfl, rfl, FY2.r.a (by unfold regA; omega)⟩
  unfold yT4
  simp only [hc]
  exact eq_f (nI_in (by omega) (by decide)) (eq_n (eq_f (pos_ne h) rfl))
theorem yT3F {u : Int32} (hk : 6 * b ≤ k ∧ k < 6 * b + 6) (hb : b ≤ 1) (h : ¬ gI M 8 ≤ 0) : FT b M (yT3 n0 (nI k) (u, M)) := by
  have hc : (nI k).toNatClampNeg = k := nI_clamp (by omega)
  have h' : ¬ gI (sA M 3 k u) 8 ≤ 0 := h
  obtain ⟨M', e, a1, a2, a3⟩ := yT4F (n0 := n0) (u := 0) hk hb h'
  refine ⟨M', ?_, a1, a2, (FY2.r.a (by unfold regA; omega)).tr a3⟩
  unfold yT3
  simp only [hc]
  exact eq_f (nI_in (by omega) (by decide)) (eq_n (eq_b (ymustF h') (eq_b (ynumF h') e)))
theorem yT1F {u : Int64} (hk : 6 * b ≤ k ∧ k < 6 * b + 6) (hb : b ≤ 1) (h : ¬ gI M 8 ≤ 0) : FT b M (yT1 n0 (nI k) (u, M)) := by
  have hc : (nI k).toNatClampNeg = k := nI_clamp (by omega)
  have h' : ¬ gI (sB M 18 k u) 8 ≤ 0 := h
  obtain ⟨M', e, a1, a2, a3⟩ := yT3F (n0 := n0) (u := 0) hk hb h'
  refine ⟨M', ?_, a1, a2, (FY2.r.bb (by unfold regB; omega)).tr a3⟩
  unfold yT1
  simp only [hc]
  exact eq_f (nI_in (by omega) (by decide)) (eq_n (eq_b (ymustF h') (eq_b (ynumF h') e)))
end TH
theorem xaddT {n0 q nt : Nat} {x1 x2 x3 : Int32} {M : Mem} (h : gI M (128 * q + 1) = nI nt) (ht : nt < 6) : fX9_addThing n0 q x1 x2 x3 M = some (sI (sA (sA (sA M (q + 1) nt x1) (q + 2) nt x2) (q + 3) nt x3) (128 * q + 1) (nI (nt + 1))) := by
  have o : ¬ oob (gI M (128 * q + 1)) 6 := by rw [h]; exact nI_in ht (by decide)
  unfold fX9_addThing
  refine eq_f (by rw [h]; exact nI_ge (b := 6) ht (by decide)) (eq_f o (eq_n (eq_f o (eq_n (eq_f o (eq_n ?_))))))
  simp only [gI_sA, h, nI_clamp (show nt < 2 ^ 31 by omega), nI_1]
/-- PR does not see what is written elsewhere -/
theorem PR.w {L s : Nat} {MX MY MY' : Mem} (h : PR L s MX MY) (h1 : gI MY' = gI MY) (h2 : gL MY' = gL MY) (h3 : gA MY' 1 = gA MY 1) : PR L s MX MY' := h.cong (fun _ _ _ => rfl) rfl rfl rfl (fun j _ => by rw [h1]) (by rw [h2]) h3
theorem thingS {n0 L s q b nt nc nd nr C : Nat} {MX MY : Mem} (hn : 1601 ≤ n0) (h : Rd L s q b nt nc nd nr C MX MY) (hk : gI MX 386 = 260) : StO L s q b MX MY (fX4_readStatement_98 n0 (bI (¬ nt = 6)) MX) (fX12_thinging_20 n0 (bI (nt = 6)) MY) := by
  obtain ⟨hP, hA, hT, hC, hCs⟩ := h
  obtain ⟨f1, f2⟩ := fstP (n0 := n0) (full := nt = 6) hn hP (by rw [hk]; decide) (by rw [hk]; decide)
  rw [thg_eq]
  by_cases hf : nt = 6
  · obtain ⟨e1, e2⟩ := f1 hf
    refine Or.inr ⟨sI (sI MX 391 6) 392 (nI s), sI (sI MY 8 6) 9 (nI s), ?_, eq_b e2 (eq_t rfl rfl), Flt.mk (k := 6) (by decide) (by decide), FIf.q, FYf.b⟩
    unfold fX4_readStatement_98
    exact eq_b e1 (eq_t rfl rfl)
  obtain ⟨MX1, MY1, s1, ex1, ey1, hs1, hP1, fx1, fy1⟩ := f2 hf
  have hA1 : At q b MX1 MY1 := hA.fr fx1.q fy1.b
  have hT1 : TownR q b nt nc nd nr C MX1 MY1 := hT.tok hA.2.1 fx1 fy1
  have hb := hA.2.2.2
  have ht : nt < 6 := by have := hT.1.1.2.2.1; omega
  have hkk : 6 * b ≤ 6 * b + nt ∧ 6 * b + nt < 6 * b + 6 := by omega
  have hcl : (nI (6 * b + nt)).toNatClampNeg = 6 * b + nt := nI_clamp (by omega)
  have ekk : ((6 : Int32) * (gI MY1 34)) + (gA MY1 2 (Int32.toNatClampNeg (gI MY1 34))) = nI (6 * b + nt) := by rw [hA1.2.2.1, nI_clamp (by omega), hT1.1.1.2.1, n6]
  have o34 : ¬ oob (gI MY1 34) 2 := by rw [hA1.2.2.1]; exact nI_in (by omega) (by decide)
  have okk : ¬ oob (nI (6 * b + nt)) 12 := nI_in (by omega) (by decide)
  unfold fX4_readStatement_98 fX4_readThing
  rcases newP hn hP1 hA1 hT1.1 with ⟨v, w, MX2, MY2, s2, hw, ex2, ey2, hs2, hP2, fx2, fy2⟩ | ⟨MX2, MY2, u, ex2, ey2, hF, fx2, fy2⟩
  rotate_left
  · exact FT.stO hF (eq_b ex1 (eq_f i10 (eq_b (eq_b ex2 (eq_t rfl rfl)) (eq_t rfl rfl)))) (by
      obtain ⟨M', e, r⟩ := yT1F (n0 := n0) (u := u) hkk hb hF.pos
      exact ⟨M', eq_b ey1 (eq_f i10 (eq_f o34 (eq_n (eq_b ey2 (by rw [ekk]; exact e))))), r⟩) (fx1.q.tr fx2.q) (fy1.b.tr fy2.b)
  have nv : ¬ nI v = -1 := nI_m1 hw.v_lt
  have hP2' : PR L s2 MX2 (sB MY2 18 (6 * b + nt) (lN w)) := hP2.w rfl rfl rfl
  have fyA : FY2 b MY1 (sB MY2 18 (6 * b + nt) (lN w)) := fy2.b.bb (by unfold regB; omega)
  rcases skW (i := 1) (y := 512802514792) (kk := 261) hn (by decide) (by decide) (by decide) hP2' with ⟨MX3, MY3, s3, ex3, ey3, hs3, hP3, fx3, fy3⟩ | ⟨MX3, MY3, ex3, ey3, hF, fx3, fy3⟩
  rotate_left
  · exact FT.stO hF (eq_b ex1 (eq_f i10 (eq_b (eq_b ex2 (eq_f nv (eq_b ex3 (eq_t rfl rfl)))) (eq_t rfl rfl)))) (by
      obtain ⟨M', e, r⟩ := yT3F (n0 := n0) (u := 0) hkk hb hF.pos
      refine ⟨M', eq_b ey1 (eq_f i10 (eq_f o34 (eq_n (eq_b ey2 ?_)))), r⟩
      rw [ekk]
      unfold yT1
      simp only [hcl]
      exact eq_f okk (eq_n (eq_b ey3 (eq_b (ynumF hF.pos) e)))) ((fx1.q.tr fx2.q).tr fx3.q) ((fy1.b.tr fyA).tr fy3.b)
  rcases numP (lo := 0) (hi := 99) hn hP3 with ⟨v2, MX4, MY4, s4, hv2, lo2, hi2, ex4, ey4, hs4, hP4, fx4, fy4⟩ | ⟨MX4, MY4, u, ex4, ey4, hF, fx4, fy4⟩
  rotate_left
  · exact FT.stO hF (eq_b ex1 (eq_f i10 (eq_b (eq_b ex2 (eq_f nv (eq_b ex3 (eq_f i10 (eq_b ex4 (eq_t rfl rfl)))))) (eq_t rfl rfl)))) (by
      obtain ⟨M', e, r⟩ := yT3F (n0 := n0) (u := u) hkk hb hF.pos
      refine ⟨M', eq_b ey1 (eq_f i10 (eq_f o34 (eq_n (eq_b ey2 ?_)))), r⟩
      rw [ekk]
      unfold yT1
      simp only [hcl]
      exact eq_f okk (eq_n (eq_b ey3 (eq_b ey4 e)))) (((fx1.q.tr fx2.q).tr fx3.q).tr fx4.q) (((fy1.b.tr fyA).tr fy3.b).tr fy4.b)
  have nv2 : ¬ nI v2 = -1 := nI_m1 (by omega)
  have hP4' : PR L s4 MX4 (sA MY4 3 (6 * b + nt) (nI v2)) := hP4.w rfl rfl (gA_sA_ne (by decide))
  have fyB : FY2 b MY3 (sA MY4 3 (6 * b + nt) (nI v2)) := fy4.b.a (by unfold regA; omega)
  rcases skW (i := 2) (y := 465491424371) (kk := 262) hn (by decide) (by decide) (by decide) hP4' with ⟨MX5, MY5, s5, ex5, ey5, hs5, hP5, fx5, fy5⟩ | ⟨MX5, MY5, ex5, ey5, hF, fx5, fy5⟩
  rotate_left
  · exact FT.stO hF (eq_b ex1 (eq_f i10 (eq_b (eq_b ex2 (eq_f nv (eq_b ex3 (eq_f i10 (eq_b ex4 (eq_f nv2 (eq_b ex5 (eq_t rfl rfl)))))))) (eq_t rfl rfl)))) (by
      obtain ⟨M', e, r⟩ := yT4F (n0 := n0) (u := 0) hkk hb hF.pos
      refine ⟨M', eq_b ey1 (eq_f i10 (eq_f o34 (eq_n (eq_b ey2 ?_)))), r⟩
      rw [ekk]
      unfold yT1 yT3
      simp only [hcl]
      exact eq_f okk (eq_n (eq_b ey3 (eq_b ey4 (eq_f okk (eq_n (eq_b ey5 (eq_b (ynumF hF.pos) e)))))))) ((((fx1.q.tr fx2.q).tr fx3.q).tr fx4.q).tr fx5.q) ((((fy1.b.tr fyA).tr fy3.b).tr fyB).tr fy5.b)
  rcases numP (lo := 1) (hi := 99) hn hP5 with ⟨v3, MX6, MY6, s6, hv3, lo3, hi3, ex6, ey6, hs6, hP6, fx6, fy6⟩ | ⟨MX6, MY6, u, ex6, ey6, hF, fx6, fy6⟩
  rotate_left
  · exact FT.stO hF (eq_b ex1 (eq_f i10 (eq_b (eq_b ex2 (eq_f nv (eq_b ex3 (eq_f i10 (eq_b ex4 (eq_f nv2 (eq_b ex5 (eq_f i10 (eq_b ex6 (eq_t rfl rfl)))))))))) (eq_t rfl rfl)))) (by
      obtain ⟨M', e, r⟩ := yT4F (n0 := n0) (u := u) hkk hb hF.pos
      refine ⟨M', eq_b ey1 (eq_f i10 (eq_f o34 (eq_n (eq_b ey2 ?_)))), r⟩
      rw [ekk]
      unfold yT1 yT3
      simp only [hcl]
      exact eq_f okk (eq_n (eq_b ey3 (eq_b ey4 (eq_f okk (eq_n (eq_b ey5 (eq_b ey6 e)))))))) (((((fx1.q.tr fx2.q).tr fx3.q).tr fx4.q).tr fx5.q).tr fx6.q) (((((fy1.b.tr fyA).tr fy3.b).tr fyB).tr fy5.b).tr fy6.b)
  -- the statement is read
  have nv3 : ¬ nI v3 = -1 := nI_m1 (by omega)
  have fxT : FI 386 392 MX1 MX6 := (((fx2.tr fx3).tr fx4).tr fx5).tr fx6
  have q7 := hA.2.1
  have x130 : gR MX6 130 = q := by rw [fxT.R]; exact hA1.1
  have xcnt : gI MX6 (128 * q + 1) = nI nt := (fxT.2 _ (by omega)).trans hT1.1.1.1
  have fy56 : ∀ a i, gA MY6 a i = gA (sA MY4 3 (6 * b + nt) (nI v2)) a i := fun a i => by rw [fy6.2.1 a id, fy5.2.1 a id]
  have fy34 : ∀ a i, gA MY4 a i = gA MY1 a i := fun a i => by
    rw [fy4.2.1 a id, fy3.2.1 a id]
    show gA MY2 a i = _
    rw [fy2.2.1 a id]
  have gb6 : ∀ a i, gB MY6 a i = gB (sB MY2 18 (6 * b + nt) (lN w)) a i := fun a i => by
    rw [fy6.2.2.2.2 a id, fy5.2.2.2.2 a id]
    show gB MY4 a i = _
    rw [fy4.2.2.2.2 a id, fy3.2.2.2.2 a id]
  have y34 : gI MY6 34 = nI b := by
    rw [fy6.1 34 (by omega), fy5.1 34 (by omega)]
    show gI MY4 34 = _
    rw [fy4.1 34 (by omega), fy3.1 34 (by omega)]
    show gI MY2 34 = _
    rw [fy2.1 34 (by omega)]
    exact hA1.2.2.1
  have y33 : gI MY6 33 = nI C := by
    rw [fy6.1 33 (by omega), fy5.1 33 (by omega)]
    show gI MY4 33 = _
    rw [fy4.1 33 (by omega), fy3.1 33 (by omega)]
    show gI MY2 33 = _
    rw [fy2.1 33 (by omega), fy1.1 33 (by omega)]
    exact hC
  have y2 : gA (sA MY6 4 (6 * b + nt) (nI v3)) 2 b = nI nt := by
    rw [gA_sA_ne (by decide), fy56, gA_sA_ne (by decide), fy34]
    exact hT1.1.1.2.1
  have hT6 : TownR q b nt nc nd nr C (sA (sA (sA MX6 (q + 1) nt (nI v)) (q + 2) nt (nI v2)) (q + 3) nt (nI v3)) (sA MY6 4 (6 * b + nt) (nI v3)) := by
    refine hT1.fine (fun j h1 h2 => fxT.2 j (by omega)) (fun a i h1 h2 h3 => ?_) (fun a i h1 h2 h3 => ?_) (fun a i h2 h3 => ?_)
    · unfold frX at h3
      rw [gA_sA]
      by_cases e3 : a = q + 3
      · rw [if_pos e3, if_neg (by omega), gA_sA_ne (by omega), gA_sA_ne (by omega), fxT.A, e3]
      · rw [if_neg e3, gA_sA]
        by_cases e2 : a = q + 2
        · rw [if_pos e2, if_neg (by omega), gA_sA_ne (by omega), fxT.A, e2]
        · rw [if_neg e2, gA_sA]
          by_cases e1 : a = q + 1
          · rw [if_pos e1, if_neg (by omega), fxT.A, e1]
          · rw [if_neg e1, fxT.A]
    · unfold frYa at h3
      rw [gA_sA]
      by_cases e4 : a = 4
      · rw [if_pos e4, if_neg (by omega), fy56, gA_sA_ne (by decide), fy34, e4]
      · rw [if_neg e4, fy56, gA_sA]
        by_cases e3 : a = 3
        · rw [if_pos e3, if_neg (by omega), fy34, e3]
        · rw [if_neg e3, fy34]
    · unfold frYb at h3
      show gB MY6 a i = _
      rw [gb6, gB_sB]
      by_cases e : a = 18
      · rw [if_pos e, if_neg (by omega), fy2.2.2.2.2 18 id, e]
      · rw [if_neg e, fy2.2.2.2.2 a id]
  have hT7 := hT6.bumpT ht hw (by rw [gA_sA_ne (by omega), gA_sA_ne (by omega), gA_sA, if_pos rfl, if_pos rfl]) (by
    show gB MY6 18 _ = _
    rw [gb6, gB_sB, if_pos rfl, if_pos rfl]) (by rw [gA_sA_ne (by omega), gA_sA, if_pos rfl, if_pos rfl]) (by rw [gA_sA_ne (by decide), fy56, gA_sA, if_pos rfl, if_pos rfl]) ((nI_leI (a := v2) (b := 99) (by omega) (by decide)).mp hi2) (by rw [gA_sA, if_pos rfl, if_pos rfl]) (by rw [gA_sA, if_pos rfl, if_pos rfl]) ⟨(nI_leI (a := 1) (b := v3) (by decide) (by omega)).mp lo3, (nI_leI (a := v3) (b := 99) (by omega) (by decide)).mp hi3⟩
  have fyE : FY2 b MY (sA (sA MY6 4 (6 * b + nt) (nI v3)) 2 b (nI (nt + 1))) := (((((((fy1.b.tr fyA).tr fy3.b).tr fyB).tr fy5.b).tr fy6.b).a (by unfold regA; omega)).a (by unfold regA; omega))
  have fxE : FX2 q MX (sI (sA (sA (sA MX6 (q + 1) nt (nI v)) (q + 2) nt (nI v2)) (q + 3) nt (nI v3)) (128 * q + 1) (nI (nt + 1))) := (((fx1.tr fxT).q.a (by omega)).a (by omega)).a (by omega) |>.i (by unfold rgX; omega)
  refine Or.inl ⟨_, _, s6, nt + 1, nc, nd, nr, C, ?_, ?_, by omega, ⟨?_, hA.fr fxE fyE, hT7, ?_, by omega⟩, fxE, fyE⟩
  · refine eq_b ex1 (eq_f i10 (eq_b (eq_b ex2 (eq_f nv (eq_b ex3 (eq_f i10 (eq_b ex4 (eq_f nv2 (eq_b ex5 (eq_f i10 (eq_b ex6 (eq_f nv3 (eq_b ?_ rfl)))))))))) ) (eq_f i10 rfl)))
    show fX9_addThing n0 (gR MX6 130) _ _ _ MX6 = _
    rw [x130]
    exact xaddT xcnt ht
  · refine eq_b ey1 (eq_f i10 (eq_f o34 (eq_n (eq_b ey2 ?_))))
    rw [ekk]
    unfold yT1 yT3 yT4
    simp only [hcl]
    have o34' : ¬ oob (gI MY6 34) 2 := by rw [y34]; exact nI_in (by omega) (by decide)
    refine eq_f okk (eq_n (eq_b ey3 (eq_b ey4 (eq_f okk (eq_n (eq_b ey5 (eq_b ey6 (eq_f okk (eq_n (eq_t hP6.f8 (eq_f o34' (eq_f o34' ?_))))))))))))
    have c34 : (gI (sA MY6 4 (6 * b + nt) (nI v3)) 34).toNatClampNeg = b := by
      show (gI MY6 34).toNatClampNeg = b
      rw [y34, nI_clamp (by omega)]
    show some (sA (sA MY6 4 (6 * b + nt) (nI v3)) 2 (gI (sA MY6 4 (6 * b + nt) (nI v3)) 34).toNatClampNeg (gA (sA MY6 4 (6 * b + nt) (nI v3)) 2 (gI (sA MY6 4 (6 * b + nt) (nI v3)) 34).toNatClampNeg + 1)) = _
    rw [c34, y2, nI_1]
  · refine hP6.cong (fun j h1 h2 => ?_) ?_ ?_ ?_ (fun j _ => rfl) rfl ?_
    · rw [gI_ne (by omega)]; rfl
    · rw [gI_ne (by omega)]; rfl
    · show gA (sA (sA (sA MX6 (q + 1) nt (nI v)) (q + 2) nt (nI v2)) (q + 3) nt (nI v3)) 4 = _
      rw [gA_sA_ne (by omega), gA_sA_ne (by omega), gA_sA_ne (by omega)]
    · show gA (sA (sA (sA MX6 (q + 1) nt (nI v)) (q + 2) nt (nI v2)) (q + 3) nt (nI v3)) 6 = _
      rw [gA_sA_ne (by omega), gA_sA_ne (by omega), gA_sA_ne (by omega)]
    · rw [gA_sA_ne (by decide), gA_sA_ne (by decide)]
  · show gI MY6 33 = _
    exact y33
end
section
/-! STATEMENTS: corner, pass -/
theorem TownR.bumpC {q b nt nc nd nr C v w : Nat} {MX MY : Mem} (h : TownR q b nt nc nd nr C MX MY) (ht : nc < 5) (hw : WR v w) (x1 : gA MX (q + 4) nc = nI v) (y1 : gB MY 19 (5 * b + nc) = lN w) (x2 : gA MX (q + 5) nc = -1) (y2 : gA MY 6 (5 * b + nc) = -1) : TownR q b nt (nc + 1) nd nr C (sI MX (128 * q + 5) (nI (nc + 1))) (sA MY 5 b (nI (nc + 1))) := by
  obtain ⟨⟨⟨a1, a2, a3⟩, ⟨a4, a5, a6⟩, ⟨a7, a8, a9⟩⟩, b1, b2, b3, ⟨c1, c2, c3⟩, ⟨p, p1, p2, p3⟩, d1, d2, d3⟩ := h
  refine ⟨⟨⟨?_, a2, a3⟩, ⟨gI_at, ?_, ⟨by omega, fun i hi => ?_⟩⟩, ⟨?_, a8, a9⟩⟩, b1, fun i hi => ?_, fun i hi => ?_, ⟨?_, c2, ⟨c3.1, fun k hk => ?_, c3.2.2⟩⟩, ⟨p, p1, ?_, p3⟩, ?_, ?_, d3⟩
  · rw [gI_ne (by omega)]; exact a1
  · rw [gA_sA, if_pos rfl, if_pos rfl]
  · by_cases e : i = nc
    · subst e; exact ⟨v, w, hw, x1, y1⟩
    · exact a6.2 i (by omega)
  · rw [gI_ne (by omega)]; exact a7
  · by_cases e : i = nc
    · subst e; exact ⟨x2.trans y2.symm, Or.inl x2⟩
    · exact b2 i (by omega)
  · obtain ⟨g1, ⟨k, g2, g3⟩, g4⟩ := b3 i hi
    exact ⟨g1, ⟨k, by omega, g3⟩, g4⟩
  · rw [gI_ne (by omega)]; exact c1
  · obtain ⟨a, c, v, g1, g2, g3⟩ := c3.2.1 k hk
    exact ⟨a, c, v, by omega, by omega, g3⟩
  · rw [gI_ne (by omega)]; exact p2
  · unfold FmR xlist at d1 ⊢
    rw [gI_ne (by omega)]
    exact d1
  · unfold FmR xlist at d2 ⊢
    rw [gI_ne (by omega)]
    exact d2
def yC1 (n0 : Nat) (k : Int32) (z47 : Int64 × Mem) : Option Mem :=
    if oob k 10 then none else
    bnd (sB z47.2 19 (Int32.toNatClampNeg k) z47.1) fun M50 =>
    if oob (gI M50 34) 2 then none else
    if oob (((5 : Int32) * (gI M50 34)) + (gA M50 5 (Int32.toNatClampNeg (gI M50 34)))) 10 then none else
    bnd (sA M50 6 (Int32.toNatClampNeg (((5 : Int32) * (gI M50 34)) + (gA M50 5 (Int32.toNatClampNeg (gI M50 34))))) (-1 : Int32)) fun M72 =>
    if (gI M72 8) = 0 then
      if oob (gI M72 34) 2 then none else
      if oob (gI M72 34) 2 then none else
      some (sA M72 5 (Int32.toNatClampNeg (gI M72 34)) ((gA M72 5 (Int32.toNatClampNeg (gI M72 34))) + (1 : Int32)))
    else
      some M72
theorem cor_eq {n0 : Nat} {u1 : Int32} {M : Mem} : fX12_cornering_19 n0 u1 M = (fX12_counts n0 u1 M).bind fun z19 => if z19.1 = 0 then some z19.2 else if oob (gI z19.2 34) 2 then none else (fX12_fresh n0 z19.2).bind (yC1 n0 (((5 : Int32) * (gI z19.2 34)) + (gA z19.2 5 (Int32.toNatClampNeg (gI z19.2 34))))) := rfl
theorem yC1e {n0 b nc : Nat} {u : Int64} {M : Mem} (hb : b ≤ 1) (hc : nc < 5) (h34 : gI M 34 = nI b) (h5 : gA M 5 b = nI nc) :
    (gI M 8 = 0 → yC1 n0 (nI (5 * b + nc)) (u, M) = some (sA (sA (sB M 19 (5 * b + nc) u) 6 (5 * b + nc) (-1)) 5 b (nI (nc + 1)))) ∧ (¬ gI M 8 = 0 → yC1 n0 (nI (5 * b + nc)) (u, M) = some (sA (sB M 19 (5 * b + nc) u) 6 (5 * b + nc) (-1))) := by
  have hcl : (nI (5 * b + nc)).toNatClampNeg = 5 * b + nc := nI_clamp (by omega)
  have hcb : (nI b).toNatClampNeg = b := nI_clamp (by omega)
  have o1 : ¬ oob (nI (5 * b + nc)) 10 := nI_in (by omega) (by decide)
  have o2 : ¬ oob (nI b) 2 := nI_in (by omega) (by decide)
  have e : ∀ v : Int64, (5 : Int32) * gI (sB M 19 (5 * b + nc) v) 34 + gA (sB M 19 (5 * b + nc) v) 5 (Int32.toNatClampNeg (gI (sB M 19 (5 * b + nc) v) 34)) = nI (5 * b + nc) := fun v => by
    show (5 : Int32) * gI M 34 + gA M 5 (Int32.toNatClampNeg (gI M 34)) = _
    rw [h34, hcb, h5, n5]
  constructor
  · intro h8
    unfold yC1
    simp only [hcl]
    refine eq_f o1 (eq_n (eq_f (by show ¬ oob (gI M 34) 2; rw [h34]; exact o2) (eq_f (by rw [e]; exact o1) (eq_n (eq_t h8 (eq_f (by show ¬ oob (gI M 34) 2; rw [h34]; exact o2) (eq_f (by show ¬ oob (gI M 34) 2; rw [h34]; exact o2) ?_)))))))
    rw [e, hcl]
    show some (sA (sA (sB M 19 (5 * b + nc) u) 6 (5 * b + nc) (-1)) 5 (gI M 34).toNatClampNeg (gA (sA (sB M 19 (5 * b + nc) u) 6 (5 * b + nc) (-1)) 5 (gI M 34).toNatClampNeg + 1)) = _
    rw [h34, hcb, gA_sA_ne (by decide)]
    show some (sA _ 5 b (gA M 5 b + 1)) = _
    rw [h5, nI_1]
  · intro h8
    unfold yC1
    simp only [hcl]
    refine eq_f o1 (eq_n (eq_f (by show ¬ oob (gI M 34) 2; rw [h34]; exact o2) (eq_f (by rw [e]; exact o1) (eq_n (eq_f h8 ?_)))))
    rw [e, hcl]
theorem xaddC {n0 q nc : Nat} {x1 : Int32} {M : Mem} (h : gI M (128 * q + 5) = nI nc) (ht : nc < 5) : fX9_addCorner n0 q x1 M = some (sI (sA (sA M (q + 4) nc x1) (q + 5) nc (-1)) (128 * q + 5) (nI (nc + 1))) := by
  have o : ¬ oob (gI M (128 * q + 5)) 5 := by rw [h]; exact nI_in ht (by decide)
  unfold fX9_addCorner
  refine eq_f (by rw [h]; exact nI_ge (b := 5) ht (by decide)) (eq_f o (eq_n (eq_f o (eq_n ?_))))
  simp only [gI_sA, h, nI_clamp (show nc < 2 ^ 31 by omega), nI_1]
theorem cornerS {n0 L s q b nt nc nd nr C : Nat} {MX MY : Mem} (hn : 1601 ≤ n0) (h : Rd L s q b nt nc nd nr C MX MY) (hk : gI MX 386 = 263) : StO L s q b MX MY (fX4_readStatement_134 n0 (bI (¬ nc = 5)) MX) (fX12_cornering_19 n0 (bI (nc = 5)) MY) := by
  obtain ⟨hP, hA, hT, hC, hCs⟩ := h
  obtain ⟨f1, f2⟩ := fstP (n0 := n0) (full := nc = 5) hn hP (by rw [hk]; decide) (by rw [hk]; decide)
  rw [cor_eq]
  by_cases hf : nc = 5
  · obtain ⟨e1, e2⟩ := f1 hf
    refine Or.inr ⟨sI (sI MX 391 6) 392 (nI s), sI (sI MY 8 6) 9 (nI s), ?_, eq_b e2 (eq_t rfl rfl), Flt.mk (k := 6) (by decide) (by decide), FIf.q, FYf.b⟩
    unfold fX4_readStatement_134
    exact eq_b e1 (eq_t rfl rfl)
  obtain ⟨MX1, MY1, s1, ex1, ey1, hs1, hP1, fx1, fy1⟩ := f2 hf
  have hA1 : At q b MX1 MY1 := hA.fr fx1.q fy1.b
  have hT1 : TownR q b nt nc nd nr C MX1 MY1 := hT.tok hA.2.1 fx1 fy1
  have hb := hA.2.2.2
  have ht : nc < 5 := by have := hT.1.2.1.2.2.1; omega
  have ekk : ((5 : Int32) * (gI MY1 34)) + (gA MY1 5 (Int32.toNatClampNeg (gI MY1 34))) = nI (5 * b + nc) := by rw [hA1.2.2.1, nI_clamp (by omega), hT1.1.2.1.2.1, n5]
  have o34 : ¬ oob (gI MY1 34) 2 := by rw [hA1.2.2.1]; exact nI_in (by omega) (by decide)
  unfold fX4_readStatement_134 fX4_readCorner
  rcases newP hn hP1 hA1 hT1.1 with ⟨v, w, MX2, MY2, s2, hw, ex2, ey2, hs2, hP2, fx2, fy2⟩ | ⟨MX2, MY2, u, ex2, ey2, hF, fx2, fy2⟩
  · have nv : ¬ nI v = -1 := nI_m1 hw.v_lt
    have q7 := hA.2.1
    have x130 : gR MX2 130 = q := by rw [fx2.R]; exact hA1.1
    have xcnt : gI MX2 (128 * q + 5) = nI nc := (fx2.2 _ (by omega)).trans hT1.1.2.1.1
    have y34 : gI MY2 34 = nI b := (fy2.1 34 (by omega)).trans hA1.2.2.1
    have y5 : gA MY2 5 b = nI nc := by rw [fy2.2.1 5 id]; exact hT1.1.2.1.2.1
    have hT6 : TownR q b nt nc nd nr C (sA (sA MX2 (q + 4) nc (nI v)) (q + 5) nc (-1)) (sA (sB MY2 19 (5 * b + nc) (lN w)) 6 (5 * b + nc) (-1)) := by
      refine hT1.fine (fun j h1 h2 => fx2.2 j (by omega)) (fun a i h1 h2 h3 => ?_) (fun a i h1 h2 h3 => ?_) (fun a i h2 h3 => ?_)
      · unfold frX at h3
        rw [gA_sA]
        by_cases e3 : a = q + 5
        · rw [if_pos e3, if_neg (by omega), gA_sA_ne (by omega), fx2.A, e3]
        · rw [if_neg e3, gA_sA]
          by_cases e2 : a = q + 4
          · rw [if_pos e2, if_neg (by omega), fx2.A, e2]
          · rw [if_neg e2, fx2.A]
      · unfold frYa at h3
        rw [gA_sA]
        by_cases e4 : a = 6
        · rw [if_pos e4, if_neg (by omega)]
          show gA MY2 6 i = _
          rw [fy2.2.1 6 id, e4]
        · rw [if_neg e4]
          show gA MY2 a i = _
          rw [fy2.2.1 a id]
      · unfold frYb at h3
        show gB (sB MY2 19 (5 * b + nc) (lN w)) a i = _
        rw [gB_sB]
        by_cases e : a = 19
        · rw [if_pos e, if_neg (by omega), fy2.2.2.2.2 19 id, e]
        · rw [if_neg e, fy2.2.2.2.2 a id]
    have hT7 := hT6.bumpC ht hw (by rw [gA_sA_ne (by omega), gA_sA, if_pos rfl, if_pos rfl]) (by
      show gB (sB MY2 19 (5 * b + nc) (lN w)) 19 _ = _
      rw [gB_sB, if_pos rfl, if_pos rfl]) (by rw [gA_sA, if_pos rfl, if_pos rfl]) (by rw [gA_sA, if_pos rfl, if_pos rfl])
    have fyE : FY2 b MY (sA (sA (sB MY2 19 (5 * b + nc) (lN w)) 6 (5 * b + nc) (-1)) 5 b (nI (nc + 1))) := (((fy1.b.tr fy2.b).bb (by unfold regB; omega)).a (by unfold regA; omega)).a (by unfold regA; omega)
    have fxE : FX2 q MX (sI (sA (sA MX2 (q + 4) nc (nI v)) (q + 5) nc (-1)) (128 * q + 5) (nI (nc + 1))) := (((fx1.tr fx2).q.a (by omega)).a (by omega)).i (by unfold rgX; omega)
    refine Or.inl ⟨_, _, s2, nt, nc + 1, nd, nr, C, ?_, ?_, by omega, ⟨?_, hA.fr fxE fyE, hT7, ?_, by omega⟩, fxE, fyE⟩
    · refine eq_b ex1 (eq_f i10 (eq_b (eq_b ex2 (eq_f nv (eq_b ?_ rfl))) (eq_f i10 rfl)))
      show fX9_addCorner n0 (gR MX2 130) _ MX2 = _
      rw [x130]
      exact xaddC xcnt ht
    · refine eq_b ey1 (eq_f i10 (eq_f o34 (eq_b ey2 ?_)))
      rw [ekk]
      exact (yC1e hb ht y34 y5).1 hP2.f8
    · refine hP2.cong (fun j h1 h2 => ?_) ?_ ?_ ?_ (fun j _ => rfl) rfl ?_
      · rw [gI_ne (by omega)]; rfl
      · rw [gI_ne (by omega)]; rfl
      · show gA (sA (sA MX2 (q + 4) nc (nI v)) (q + 5) nc (-1)) 4 = _
        rw [gA_sA_ne (by omega), gA_sA_ne (by omega)]
      · show gA (sA (sA MX2 (q + 4) nc (nI v)) (q + 5) nc (-1)) 6 = _
        rw [gA_sA_ne (by omega), gA_sA_ne (by omega)]
      · rw [gA_sA_ne (by decide), gA_sA_ne (by decide)]
        rfl
    · show gI MY2 33 = _
      rw [fy2.1 33 (by omega), fy1.1 33 (by omega)]
      exact hC
  · refine FT.stO hF (eq_b ex1 (eq_f i10 (eq_b (eq_b ex2 (eq_t rfl rfl)) (eq_t rfl rfl)))) ⟨sA (sB MY2 19 (5 * b + nc) u) 6 (5 * b + nc) (-1), ?_, rfl, rfl, (FY2.r.bb (by unfold regB; omega)).a (by unfold regA; omega)⟩ (fx1.q.tr fx2.q) (fy1.b.tr fy2.b)
    refine eq_b ey1 (eq_f i10 (eq_f o34 (eq_b ey2 ?_)))
    rw [ekk]
    exact (yC1e hb ht ((fy2.1 34 (by omega)).trans hA1.2.2.1) (by rw [fy2.2.1 5 id]; exact hT1.1.2.1.2.1)).2 (pos_ne hF.pos)
/-- the statement pass, as the class's readStatement has it -/
def xPass (n0 : Nat) (M : Mem) : Option (Int32 × Mem) :=
    (fX4_skipFirst n0 (1 : Int32) M).bind fun z346 =>
    if z346.1 = 0 then
      some ((0 : Int32), z346.2)
    else
      (fX4_readPass n0 z346.2).bind fun z353 =>
      if z353.1 = 0 then
        some ((0 : Int32), z353.2)
      else
        some ((1 : Int32), z353.2)
theorem TownR.setP {q b nt nc nd nr C p : Nat} {MX MY : Mem} (h : TownR q b nt nc nd nr C MX MY) (hp : p ≤ 100) : TownR q b nt nc nd nr C (sI MX (128 * q + 16) (nI p)) (sA MY 13 b (nI p)) := by
  obtain ⟨⟨⟨a1, a2, a3⟩, ⟨a4, a5, a6⟩, ⟨a7, a8, a9⟩⟩, b1, b2, b3, ⟨c1, c2, c3⟩, -, d1, d2, d3⟩ := h
  refine ⟨⟨⟨?_, a2, a3⟩, ⟨?_, a5, a6⟩, ⟨?_, a8, a9⟩⟩, b1, b2, b3, ⟨?_, c2, c3⟩, ⟨p, hp, gI_at, ?_⟩, ?_, ?_, d3⟩
  · rw [gI_ne (by omega)]; exact a1
  · rw [gI_ne (by omega)]; exact a4
  · rw [gI_ne (by omega)]; exact a7
  · rw [gI_ne (by omega)]; exact c1
  · rw [gA_sA, if_pos rfl, if_pos rfl]
  · unfold FmR xlist at d1 ⊢
    rw [gI_ne (by omega)]
    exact d1
  · unfold FmR xlist at d2 ⊢
    rw [gI_ne (by omega)]
    exact d2
theorem passS {n0 L s q b nt nc nd nr C : Nat} {MX MY : Mem} (hn : 1601 ≤ n0) (h : Rd L s q b nt nc nd nr C MX MY) (hk : gI MX 386 = 274) : StO L s q b MX MY (xPass n0 MX) (fX12_passing n0 MY) := by
  obtain ⟨hP, hA, hT, hC, hCs⟩ := h
  obtain ⟨-, f2⟩ := fstP (n0 := n0) (full := False) hn hP (by rw [hk]; decide) (by rw [hk]; decide)
  obtain ⟨MX1, MY1, s1, ex1, ey1, hs1, hP1, fx1, fy1⟩ := f2 id
  rw [bI_t (show ¬ False from id)] at ex1
  rw [bI_f (show ¬ False from id)] at ey1
  have q7 := hA.2.1
  have hb := hA.2.2.2
  unfold xPass fX4_readPass fX12_passing
  rcases numP (lo := 0) (hi := 100) hn hP1 with ⟨v2, MX4, MY4, s4, hv2, lo2, hi2, ex4, ey4, hs4, hP4, fx4, fy4⟩ | ⟨MX4, MY4, u, ex4, ey4, hF, fx4, fy4⟩
  · have nv2 : ¬ nI v2 = -1 := nI_m1 (by omega)
    have hT4 : TownR q b nt nc nd nr C MX4 MY4 := (hT.tok q7 fx1 fy1).tok q7 fx4 fy4
    have x130 : gR MX4 130 = q := by rw [fx4.R, fx1.R]; exact hA.1
    have y34 : gI MY4 34 = nI b := ((fy4.1 34 (by omega)).trans (fy1.1 34 (by omega))).trans hA.2.2.1
    have hT5 := hT4.setP (p := v2) ((nI_leI (a := v2) (b := 100) (by omega) (by decide)).mp hi2)
    have fyE : FY2 b MY (sA MY4 13 b (nI v2)) := (fy1.b.tr fy4.b).a (by unfold regA; omega)
    have fxE : FX2 q MX (sI MX4 (128 * q + 16) (nI v2)) := ((fx1.tr fx4).q).i (by unfold rgX; omega)
    refine Or.inl ⟨_, _, s4, nt, nc, nd, nr, C, ?_, ?_, by omega, ⟨?_, hA.fr fxE fyE, hT5, ?_, by omega⟩, fxE, fyE⟩
    · refine eq_b ex1 (eq_f i10 (eq_b (eq_b ex4 (eq_f nv2 (eq_n rfl))) (eq_f i10 ?_)))
      show some ((1 : Int32), sI MX4 (128 * gR MX4 130 + 16) (nI v2)) = _
      rw [x130]
    · refine eq_b ey1 (eq_f i10 (eq_b ey4 (eq_t hP4.f8 (eq_f (by show ¬ oob (gI MY4 34) 2; rw [y34]; exact nI_in (by omega) (by decide)) ?_))))
      show some (sA MY4 13 (gI MY4 34).toNatClampNeg (nI v2)) = _
      rw [y34, nI_clamp (by omega)]
    · exact hP4.cong (fun j h1 h2 => by rw [gI_ne (by omega)]) (by rw [gI_ne (by omega)]) rfl rfl (fun j _ => rfl) rfl (gA_sA_ne (by decide))
    · show gI MY4 33 = _
      rw [fy4.1 33 (by omega), fy1.1 33 (by omega)]
      exact hC
  · exact Or.inr ⟨MX4, MY4, eq_b ex1 (eq_f i10 (eq_b (eq_b ex4 (eq_t rfl rfl)) (eq_t rfl rfl))), eq_b ey1 (eq_f i10 (eq_b ey4 (eq_f (pos_ne hF.pos) rfl))), hF, fx1.q.tr fx4.q, fy1.b.tr fy4.b⟩
end
section
/-! STATEMENTS: doing -/
theorem TownR.bumpD {q b nt nc nd nr C v w c h : Nat} {MX MY : Mem} (hT : TownR q b nt nc nd nr C MX MY) (ht : nd < 6) (hw : WR v w) (x1 : gA MX (q + 9) nd = nI v) (y1 : gB MY 20 (6 * b + nd) = lN w) (x2 : gA MX (q + 10) nd = nI c) (y2 : gA MY 11 (6 * b + nd) = nI c) (hc : c < nc) (x3 : gA MX (q + 11) nd = nI h) (y3 : gA MY 12 (6 * b + nd) = nI h) (hh : h ≤ 23) : TownR q b nt nc (nd + 1) nr C (sI MX (128 * q + 12) (nI (nd + 1))) (sA MY 10 b (nI (nd + 1))) := by
  obtain ⟨⟨⟨a1, a2, a3⟩, ⟨a4, a5, a6⟩, ⟨a7, a8, a9⟩⟩, b1, b2, b3, ⟨c1, c2, c3⟩, ⟨p, p1, p2, p3⟩, d1, d2, d3⟩ := hT
  refine ⟨⟨⟨?_, a2, a3⟩, ⟨?_, a5, a6⟩, ⟨gI_at, ?_, ⟨by omega, fun i hi => ?_⟩⟩⟩, b1, b2, fun i hi => ?_, ⟨?_, c2, c3⟩, ⟨p, p1, ?_, p3⟩, ?_, ?_, d3⟩
  · rw [gI_ne (by omega)]; exact a1
  · rw [gI_ne (by omega)]; exact a4
  · rw [gA_sA, if_pos rfl, if_pos rfl]
  · by_cases e : i = nd
    · subst e; exact ⟨v, w, hw, x1, y1⟩
    · exact a9.2 i (by omega)
  · by_cases e : i = nd
    · subst e; exact ⟨x2.trans y2.symm, ⟨c, hc, x2⟩, x3.trans y3.symm, h, hh, x3⟩
    · exact b3 i (by omega)
  · rw [gI_ne (by omega)]; exact c1
  · rw [gI_ne (by omega)]; exact p2
  · unfold FmR xlist at d1 ⊢
    rw [gI_ne (by omega)]
    exact d1
  · unfold FmR xlist at d2 ⊢
    rw [gI_ne (by omega)]
    exact d2
def yD5 (n0 : Nat) (k : Int32) (z90 : Int32 × Mem) : Option Mem :=
  if oob k 12 then none else
  bnd (sA z90.2 12 (Int32.toNatClampNeg k) z90.1) fun M93 =>
  if (gI M93 8) = 0 then
    if oob (gI M93 34) 2 then none else
    if oob (gI M93 34) 2 then none else
    some (sA M93 10 (Int32.toNatClampNeg (gI M93 34)) ((gA M93 10 (Int32.toNatClampNeg (gI M93 34))) + (1 : Int32)))
  else
    some M93
def yD3 (n0 : Nat) (k : Int32) (z70 : Int32 × Mem) : Option Mem :=
  if oob k 12 then none else
  bnd (sA z70.2 11 (Int32.toNatClampNeg k) z70.1) fun M73 =>
  (fX12_must_ n0 (1752135026 : Int64) M73).bind fun z78 =>
  (fX12_number n0 (0 : Int32) (23 : Int32) z78).bind (yD5 n0 k)
def yD1 (n0 : Nat) (k : Int32) (z51 : Int64 × Mem) : Option Mem :=
  if oob k 12 then none else
  bnd (sB z51.2 20 (Int32.toNatClampNeg k) z51.1) fun M54 =>
  (fX12_must_ n0 (24948 : Int64) M54).bind fun z59 =>
  (fX12_knownBut n0 (1 : Int32) (0 : Int32) z59).bind (yD3 n0 k)
theorem doi_eq {n0 : Nat} {u1 : Int32} {M : Mem} : fX12_doings_20 n0 u1 M = (fX12_counts n0 u1 M).bind fun z20 => if z20.1 = 0 then some z20.2 else if oob (gI z20.2 34) 2 then none else bnd (((6 : Int32) * (gI z20.2 34)) + (gA z20.2 10 (Int32.toNatClampNeg (gI z20.2 34)))) fun k => (fX12_fresh n0 z20.2).bind (yD1 n0 k) := rfl
theorem yD5F {n0 b k : Nat} {M : Mem} {u : Int32} (hk : 6 * b ≤ k ∧ k < 6 * b + 6) (hb : b ≤ 1) (h : ¬ gI M 8 ≤ 0) : FT b M (yD5 n0 (nI k) (u, M)) := by
  have hc : (nI k).toNatClampNeg = k := nI_clamp (by omega)
  refine ⟨sA M 12 k u, ?_, rfl, rfl, FY2.r.a (by unfold regA; omega)⟩
  unfold yD5
  simp only [hc]
  exact eq_f (nI_in (by omega) (by decide)) (eq_n (eq_f (pos_ne h) rfl))
theorem yD3F {n0 b k : Nat} {M : Mem} {u : Int32} (hk : 6 * b ≤ k ∧ k < 6 * b + 6) (hb : b ≤ 1) (h : ¬ gI M 8 ≤ 0) : FT b M (yD3 n0 (nI k) (u, M)) := by
  have hc : (nI k).toNatClampNeg = k := nI_clamp (by omega)
  have h' : ¬ gI (sA M 11 k u) 8 ≤ 0 := h
  obtain ⟨M', e, a1, a2, a3⟩ := yD5F (n0 := n0) (u := 0) hk hb h'
  refine ⟨M', ?_, a1, a2, (FY2.r.a (by unfold regA; omega)).tr a3⟩
  unfold yD3
  simp only [hc]
  exact eq_f (nI_in (by omega) (by decide)) (eq_n (eq_b (ymustF h') (eq_b (ynumF h') e)))
theorem yD1F {n0 b k : Nat} {M : Mem} {u : Int64} (hk : 6 * b ≤ k ∧ k < 6 * b + 6) (hb : b ≤ 1) (h : ¬ gI M 8 ≤ 0) : FT b M (yD1 n0 (nI k) (u, M)) := by
  have hc : (nI k).toNatClampNeg = k := nI_clamp (by omega)
  have h' : ¬ gI (sB M 20 k u) 8 ≤ 0 := h
  obtain ⟨M', e, a1, a2, a3⟩ := yD3F (n0 := n0) (u := 0) hk hb h'
  refine ⟨M', ?_, a1, a2, (FY2.r.bb (by unfold regB; omega)).tr a3⟩
  unfold yD1
  simp only [hc]
  exact eq_f (nI_in (by omega) (by decide)) (eq_n (eq_b (ymustF h') (eq_b (ykF h') e)))
theorem xaddD {n0 q nd : Nat} {x1 x2 x3 : Int32} {M : Mem} (h : gI M (128 * q + 12) = nI nd) (ht : nd < 6) : fX9_addDoing n0 q x1 x2 x3 M = some (sI (sA (sA (sA M (q + 9) nd x1) (q + 10) nd x2) (q + 11) nd x3) (128 * q + 12) (nI (nd + 1))) := by
  have o : ¬ oob (gI M (128 * q + 12)) 6 := by rw [h]; exact nI_in ht (by decide)
  unfold fX9_addDoing
  refine eq_f (by rw [h]; exact nI_ge (b := 6) ht (by decide)) (eq_f o (eq_n (eq_f o (eq_n (eq_f o (eq_n ?_))))))
  simp only [gI_sA, h, nI_clamp (show nd < 2 ^ 31 by omega), nI_1]
theorem NmR.fr {q b nt nc nd nr C : Nat} {MX MY MX' MY' : Mem} (h : TownR q b nt nc nd nr C MX MY) (hq : q = 31 ∨ q = 47) (hx : FI 386 392 MX MX') (hA : gA MY' = gA MY) (hB : ∀ a i, ¬ frYb b nt nc nd a i → gB MY' a i = gB MY a i) : NmR q b nt nc nd MX' MY' := by
  refine (h.fine (MX' := MX') (MY' := MY') (fun j h1 _ => hx.2 j (by omega)) (fun a i _ _ _ => by rw [hx.A]) (fun a i _ _ _ => by rw [hA]) (fun a i _ g => hB a i g)).1
theorem doingS {n0 L s q b nt nc nd nr C : Nat} {MX MY : Mem} (hn : 1601 ≤ n0) (h : Rd L s q b nt nc nd nr C MX MY) (hk : gI MX 386 = 269) : StO L s q b MX MY (fX4_readStatement_229 n0 (bI (¬ nd = 6)) MX) (fX12_doings_20 n0 (bI (nd = 6)) MY) := by
  obtain ⟨hP, hA, hT, hC, hCs⟩ := h
  obtain ⟨f1, f2⟩ := fstP (n0 := n0) (full := nd = 6) hn hP (by rw [hk]; decide) (by rw [hk]; decide)
  rw [doi_eq]
  by_cases hf : nd = 6
  · obtain ⟨e1, e2⟩ := f1 hf
    refine Or.inr ⟨sI (sI MX 391 6) 392 (nI s), sI (sI MY 8 6) 9 (nI s), ?_, eq_b e2 (eq_t rfl rfl), Flt.mk (k := 6) (by decide) (by decide), FIf.q, FYf.b⟩
    unfold fX4_readStatement_229
    exact eq_b e1 (eq_t rfl rfl)
  obtain ⟨MX1, MY1, s1, ex1, ey1, hs1, hP1, fx1, fy1⟩ := f2 hf
  have hA1 : At q b MX1 MY1 := hA.fr fx1.q fy1.b
  have hT1 : TownR q b nt nc nd nr C MX1 MY1 := hT.tok hA.2.1 fx1 fy1
  have hb := hA.2.2.2
  have q7 := hA.2.1
  have ht : nd < 6 := by have := hT.1.2.2.2.2.1; omega
  have hkk : 6 * b ≤ 6 * b + nd ∧ 6 * b + nd < 6 * b + 6 := by omega
  have hcl : (nI (6 * b + nd)).toNatClampNeg = 6 * b + nd := nI_clamp (by omega)
  have ekk : ((6 : Int32) * (gI MY1 34)) + (gA MY1 10 (Int32.toNatClampNeg (gI MY1 34))) = nI (6 * b + nd) := by rw [hA1.2.2.1, nI_clamp (by omega), hT1.1.2.2.2.1, n6]
  have o34 : ¬ oob (gI MY1 34) 2 := by rw [hA1.2.2.1]; exact nI_in (by omega) (by decide)
  have okk : ¬ oob (nI (6 * b + nd)) 12 := nI_in (by omega) (by decide)
  unfold fX4_readStatement_229 fX4_readDoing
  rcases newP hn hP1 hA1 hT1.1 with ⟨v, w, MX2, MY2, s2, hw, ex2, ey2, hs2, hP2, fx2, fy2⟩ | ⟨MX2, MY2, u, ex2, ey2, hF, fx2, fy2⟩
  rotate_left
  · exact FT.stO hF (eq_b ex1 (eq_f i10 (eq_b (eq_b ex2 (eq_t rfl rfl)) (eq_t rfl rfl)))) (by
      obtain ⟨M', e, r⟩ := yD1F (n0 := n0) (u := u) hkk hb hF.pos
      exact ⟨M', eq_b ey1 (eq_f i10 (eq_f o34 (eq_n (eq_b ey2 (by rw [ekk]; exact e))))), r⟩) (fx1.q.tr fx2.q) (fy1.b.tr fy2.b)
  have nv : ¬ nI v = -1 := nI_m1 hw.v_lt
  have hP2' : PR L s2 MX2 (sB MY2 20 (6 * b + nd) (lN w)) := hP2.w rfl rfl rfl
  have fyA : FY2 b MY1 (sB MY2 20 (6 * b + nd) (lN w)) := fy2.b.bb (by unfold regB; omega)
  rcases skW (i := 10) (y := 24948) (kk := 270) hn (by decide) (by decide) (by decide) hP2' with ⟨MX3, MY3, s3, ex3, ey3, hs3, hP3, fx3, fy3⟩ | ⟨MX3, MY3, ex3, ey3, hF, fx3, fy3⟩
  rotate_left
  · exact FT.stO hF (eq_b ex1 (eq_f i10 (eq_b (eq_b ex2 (eq_f nv (eq_b ex3 (eq_t rfl rfl)))) (eq_t rfl rfl)))) (by
      obtain ⟨M', e, r⟩ := yD3F (n0 := n0) (u := 0) hkk hb hF.pos
      refine ⟨M', eq_b ey1 (eq_f i10 (eq_f o34 (eq_n (eq_b ey2 ?_)))), r⟩
      rw [ekk]
      unfold yD1
      simp only [hcl]
      exact eq_f okk (eq_n (eq_b ey3 (eq_b (ykF hF.pos) e)))) ((fx1.q.tr fx2.q).tr fx3.q) ((fy1.b.tr fyA).tr fy3.b)
  have fx13 : FI 386 392 MX1 MX3 := fx2.tr fx3
  have gb3 : ∀ a i, gB MY3 a i = gB (sB MY2 20 (6 * b + nd) (lN w)) a i := fun a i => by rw [fy3.2.2.2.2 a id]
  have ga3 : gA MY3 = gA MY1 := by
    funext a
    rw [fy3.2.1 a id]
    show gA MY2 a = _
    rw [fy2.2.1 a id]
  have hA3 : At q b MX3 MY3 := hA1.fr fx13.q (fyA.tr fy3.b)
  have hN3 : NmR q b nt nc nd MX3 MY3 := NmR.fr hT1 q7 fx13 ga3 (fun a i g => by
    unfold frYb at g
    rw [gb3, gB_sB]
    by_cases e : a = 20
    · rw [if_pos e, if_neg (by omega), fy2.2.2.2.2 20 id, e]
    · rw [if_neg e, fy2.2.2.2.2 a id])
  rcases corP (n0 := n0) 0 hn hP3 hA3 hN3 with ⟨MX4, MY4, ex4, ey4, hF, fx4, fy4⟩ | ⟨c, hc, ex4, -, hc4⟩
  · exact FT.stO hF (eq_b ex1 (eq_f i10 (eq_b (eq_b ex2 (eq_f nv (eq_b ex3 (eq_f i10 (eq_b ex4 (eq_t rfl rfl)))))) (eq_t rfl rfl)))) (by
      obtain ⟨M', e, r⟩ := yD3F (n0 := n0) (u := 0) hkk hb hF.pos
      refine ⟨M', eq_b ey1 (eq_f i10 (eq_f o34 (eq_n (eq_b ey2 ?_)))), r⟩
      rw [ekk]
      unfold yD1
      simp only [hcl]
      exact eq_f okk (eq_n (eq_b ey3 (eq_b ey4 e)))) (((fx1.q.tr fx2.q).tr fx3.q).tr fx4.q) (((fy1.b.tr fyA).tr fy3.b).tr fy4.b)
  have c5 := hN3.2.1.2.2.1
  obtain ⟨MX4, MY4, s4, ax4, ey4, hs4, hP4, fx4, fy4⟩ := hc4 (Hs0 (by omega))
  have nc1 : ¬ nI c = -1 := nI_m1 (by omega)
  have hP4' : PR L s4 MX4 (sA MY4 11 (6 * b + nd) (nI c)) := hP4.w rfl rfl (gA_sA_ne (by decide))
  have fyB : FY2 b MY3 (sA MY4 11 (6 * b + nd) (nI c)) := fy4.b.a (by unfold regA; omega)
  rcases skW (i := 11) (y := 1752135026) (kk := 271) hn (by decide) (by decide) (by decide) hP4' with ⟨MX5, MY5, s5, ex5, ey5, hs5, hP5, fx5, fy5⟩ | ⟨MX5, MY5, ex5, ey5, hF, fx5, fy5⟩
  rotate_left
  · exact FT.stO hF (eq_b ex1 (eq_f i10 (eq_b (eq_b ex2 (eq_f nv (eq_b ex3 (eq_f i10 (eq_b ex4 (eq_f nc1 (eq_b ax4 (eq_b ex5 (eq_t rfl (by unfold fX4_readDoing_68; exact eq_t rfl rfl)))))))))) (eq_t rfl rfl)))) (by
      obtain ⟨M', e, r⟩ := yD5F (n0 := n0) (u := 0) hkk hb hF.pos
      refine ⟨M', eq_b ey1 (eq_f i10 (eq_f o34 (eq_n (eq_b ey2 ?_)))), r⟩
      rw [ekk]
      unfold yD1 yD3
      simp only [hcl]
      exact eq_f okk (eq_n (eq_b ey3 (eq_b ey4 (eq_f okk (eq_n (eq_b ey5 (eq_b (ynumF hF.pos) e)))))))) ((((fx1.q.tr fx2.q).tr fx3.q).tr fx4.q).tr fx5.q) ((((fy1.b.tr fyA).tr fy3.b).tr fyB).tr fy5.b)
  rcases numP (lo := 0) (hi := 23) hn hP5 with ⟨v3, MX6, MY6, s6, hv3, lo3, hi3, ex6, ey6, hs6, hP6, fx6, fy6⟩ | ⟨MX6, MY6, u, ex6, ey6, hF, fx6, fy6⟩
  rotate_left
  · exact FT.stO hF (eq_b ex1 (eq_f i10 (eq_b (eq_b ex2 (eq_f nv (eq_b ex3 (eq_f i10 (eq_b ex4 (eq_f nc1 (eq_b ax4 (eq_b ex5 (eq_f i10 (eq_b ex6 (by unfold fX4_readDoing_68; exact eq_t rfl rfl))))))))))) (eq_t rfl rfl)))) (by
      obtain ⟨M', e, r⟩ := yD5F (n0 := n0) (u := u) hkk hb hF.pos
      refine ⟨M', eq_b ey1 (eq_f i10 (eq_f o34 (eq_n (eq_b ey2 ?_)))), r⟩
      rw [ekk]
      unfold yD1 yD3
      simp only [hcl]
      exact eq_f okk (eq_n (eq_b ey3 (eq_b ey4 (eq_f okk (eq_n (eq_b ey5 (eq_b ey6 e)))))))) (((((fx1.q.tr fx2.q).tr fx3.q).tr fx4.q).tr fx5.q).tr fx6.q) (((((fy1.b.tr fyA).tr fy3.b).tr fyB).tr fy5.b).tr fy6.b)
  -- the statement is read
  have nv3 : ¬ nI v3 = -1 := nI_m1 (by omega)
  have fxT : FI 386 392 MX1 MX6 := ((fx13.tr fx4).tr fx5).tr fx6
  have x130 : gR MX6 130 = q := by rw [fxT.R]; exact hA1.1
  have xcnt : gI MX6 (128 * q + 12) = nI nd := (fxT.2 _ (by omega)).trans hT1.1.2.2.1
  have fy56 : ∀ a i, gA MY6 a i = gA (sA MY4 11 (6 * b + nd) (nI c)) a i := fun a i => by rw [fy6.2.1 a id, fy5.2.1 a id]
  have fy34 : ∀ a i, gA MY4 a i = gA MY1 a i := fun a i => by rw [fy4.2.1 a id, ga3]
  have gb6 : ∀ a i, gB MY6 a i = gB (sB MY2 20 (6 * b + nd) (lN w)) a i := fun a i => by
    rw [fy6.2.2.2.2 a id, fy5.2.2.2.2 a id]
    show gB MY4 a i = _
    rw [fy4.2.2.2.2 a id, gb3]
  have y34 : gI MY6 34 = nI b := by
    rw [fy6.1 34 (by omega), fy5.1 34 (by omega)]
    show gI MY4 34 = _
    rw [fy4.1 34 (by omega)]
    exact hA3.2.2.1
  have y33 : gI MY6 33 = nI C := by
    rw [fy6.1 33 (by omega), fy5.1 33 (by omega)]
    show gI MY4 33 = _
    rw [fy4.1 33 (by omega), fy3.1 33 (by omega)]
    show gI MY2 33 = _
    rw [fy2.1 33 (by omega), fy1.1 33 (by omega)]
    exact hC
  have y2 : gA (sA MY6 12 (6 * b + nd) (nI v3)) 10 b = nI nd := by
    rw [gA_sA_ne (by decide), fy56, gA_sA_ne (by decide), fy34]
    exact hT1.1.2.2.2.1
  have hT6 : TownR q b nt nc nd nr C (sA (sA (sA MX6 (q + 9) nd (nI v)) (q + 10) nd (nI c)) (q + 11) nd (nI v3)) (sA MY6 12 (6 * b + nd) (nI v3)) := by
    refine hT1.fine (fun j h1 h2 => fxT.2 j (by omega)) (fun a i h1 h2 h3 => ?_) (fun a i h1 h2 h3 => ?_) (fun a i h2 h3 => ?_)
    · unfold frX at h3
      rw [gA_sA]
      by_cases e3 : a = q + 11
      · rw [if_pos e3, if_neg (by omega), gA_sA_ne (by omega), gA_sA_ne (by omega), fxT.A, e3]
      · rw [if_neg e3, gA_sA]
        by_cases e2 : a = q + 10
        · rw [if_pos e2, if_neg (by omega), gA_sA_ne (by omega), fxT.A, e2]
        · rw [if_neg e2, gA_sA]
          by_cases e1 : a = q + 9
          · rw [if_pos e1, if_neg (by omega), fxT.A, e1]
          · rw [if_neg e1, fxT.A]
    · unfold frYa at h3
      rw [gA_sA]
      by_cases e4 : a = 12
      · rw [if_pos e4, if_neg (by omega), fy56, gA_sA_ne (by decide), fy34, e4]
      · rw [if_neg e4, fy56, gA_sA]
        by_cases e3 : a = 11
        · rw [if_pos e3, if_neg (by omega), fy34, e3]
        · rw [if_neg e3, fy34]
    · unfold frYb at h3
      show gB MY6 a i = _
      rw [gb6, gB_sB]
      by_cases e : a = 20
      · rw [if_pos e, if_neg (by omega), fy2.2.2.2.2 20 id, e]
      · rw [if_neg e, fy2.2.2.2.2 a id]
  have hT7 := hT6.bumpD ht hw (by rw [gA_sA_ne (by omega), gA_sA_ne (by omega), gA_sA, if_pos rfl, if_pos rfl]) (by
    show gB MY6 20 _ = _
    rw [gb6, gB_sB, if_pos rfl, if_pos rfl]) (by rw [gA_sA_ne (by omega), gA_sA, if_pos rfl, if_pos rfl]) (by rw [gA_sA_ne (by decide), fy56, gA_sA, if_pos rfl, if_pos rfl]) hc (by rw [gA_sA, if_pos rfl, if_pos rfl]) (by rw [gA_sA, if_pos rfl, if_pos rfl]) ((nI_leI (a := v3) (b := 23) (by omega) (by decide)).mp hi3)
  have fyE : FY2 b MY (sA (sA MY6 12 (6 * b + nd) (nI v3)) 10 b (nI (nd + 1))) := (((((((fy1.b.tr fyA).tr fy3.b).tr fyB).tr fy5.b).tr fy6.b).a (by unfold regA; omega)).a (by unfold regA; omega))
  have fxE : FX2 q MX (sI (sA (sA (sA MX6 (q + 9) nd (nI v)) (q + 10) nd (nI c)) (q + 11) nd (nI v3)) (128 * q + 12) (nI (nd + 1))) := (((fx1.tr fxT).q.a (by omega)).a (by omega)).a (by omega) |>.i (by unfold rgX; omega)
  refine Or.inl ⟨_, _, s6, nt, nc, nd + 1, nr, C, ?_, ?_, by omega, ⟨?_, hA.fr fxE fyE, hT7, ?_, by omega⟩, fxE, fyE⟩
  · have hd : fX4_readDoing_68 n0 (nI v) (nI c) (nI v3) MX6 = some (1, sI (sA (sA (sA MX6 (q + 9) nd (nI v)) (q + 10) nd (nI c)) (q + 11) nd (nI v3)) (128 * q + 12) (nI (nd + 1))) := by
      unfold fX4_readDoing_68
      refine eq_f nv3 (eq_b ?_ rfl)
      show fX9_addDoing n0 (gR MX6 130) _ _ _ MX6 = _
      rw [x130]
      exact xaddD xcnt ht
    exact eq_b ex1 (eq_f i10 (eq_b (eq_b ex2 (eq_f nv (eq_b ex3 (eq_f i10 (eq_b ex4 (eq_f nc1 (eq_b ax4 (eq_b ex5 (eq_f i10 (eq_b ex6 hd)))))))))) (eq_f i10 rfl)))
  · refine eq_b ey1 (eq_f i10 (eq_f o34 (eq_n (eq_b ey2 ?_))))
    rw [ekk]
    unfold yD1 yD3 yD5
    simp only [hcl]
    have o34' : ¬ oob (gI MY6 34) 2 := by rw [y34]; exact nI_in (by omega) (by decide)
    refine eq_f okk (eq_n (eq_b ey3 (eq_b ey4 (eq_f okk (eq_n (eq_b ey5 (eq_b ey6 (eq_f okk (eq_n (eq_t hP6.f8 (eq_f o34' (eq_f o34' ?_))))))))))))
    have c34 : (gI (sA MY6 12 (6 * b + nd) (nI v3)) 34).toNatClampNeg = b := by
      show (gI MY6 34).toNatClampNeg = b
      rw [y34, nI_clamp (by omega)]
    show some (sA (sA MY6 12 (6 * b + nd) (nI v3)) 10 (gI (sA MY6 12 (6 * b + nd) (nI v3)) 34).toNatClampNeg (gA (sA MY6 12 (6 * b + nd) (nI v3)) 10 (gI (sA MY6 12 (6 * b + nd) (nI v3)) 34).toNatClampNeg + 1)) = _
    rw [c34, y2, nI_1]
  · refine hP6.cong (fun j h1 h2 => ?_) ?_ ?_ ?_ (fun j _ => rfl) rfl ?_
    · rw [gI_ne (by omega)]; rfl
    · rw [gI_ne (by omega)]; rfl
    · show gA (sA (sA (sA MX6 (q + 9) nd (nI v)) (q + 10) nd (nI c)) (q + 11) nd (nI v3)) 4 = _
      rw [gA_sA_ne (by omega), gA_sA_ne (by omega), gA_sA_ne (by omega)]
    · show gA (sA (sA (sA MX6 (q + 9) nd (nI v)) (q + 10) nd (nI c)) (q + 11) nd (nI v3)) 6 = _
      rw [gA_sA_ne (by omega), gA_sA_ne (by omega), gA_sA_ne (by omega)]
    · rw [gA_sA_ne (by decide), gA_sA_ne (by decide)]
  · show gI MY6 33 = _
    exact y33
end
section
/-! STATEMENTS: palm -/
theorem or_bit : ∀ m, m < 32 → ∀ j, j < 5 → (nI m ||| ((1 : Int32) <<< (nI j &&& 31))) = nI (m ||| 2 ^ j) ∧ (m ||| 2 ^ j) < 32 ∧ ∀ i, i < 5 → ((((nI (m ||| 2 ^ j) >>> (nI i &&& 31)) &&& (1 : Int32)) = (1 : Int32)) ↔ ((((nI m >>> (nI i &&& 31)) &&& (1 : Int32)) = (1 : Int32)) ∨ i = j)) := by decide +kernel
theorem Hs_or {m i j : Nat} (hm : m < 32) (hj : j < 5) (hi : i < 5) : Hs (nI (m ||| 2 ^ j)) i ↔ (Hs (nI m) i ∨ i = j) := (or_bit m hm j hj).2.2 i hi
def yPR (n0 : Nat) (x1 : Int32) (M : Mem) : Option Mem :=
    (fX12_knownBut n0 (1 : Int32) x1 M).bind fun z62 =>
    (fX12_must_ n0 (6840691 : Int64) z62.2).bind fun z70 =>
    (fX12_knownBut n0 (0 : Int32) (0 : Int32) z70).bind fun z76 =>
    if (gI z76.2 8) = 0 then
      if oob (((5 : Int32) * (gI z76.2 34)) + z62.1) 10 then none else
      some (sA z76.2 6 (Int32.toNatClampNeg (((5 : Int32) * (gI z76.2 34)) + z62.1)) z76.1)
    else
      some z76.2
theorem yPloop {n0 b nc : Nat} {M : Mem} (hb : b ≤ 1) (hc : nc ≤ 5) (h34 : gI M 34 = nI b) (h5 : gA M 5 b = nI nc) : ∀ (w j m : Nat), j ≤ nc → nc < w + j → m < 32 → (∀ i, i < 5 → (Hs (nI m) i ↔ (i < j ∧ ¬ gA M 6 (5 * b + i) = -1))) → ∃ m', m' < 32 ∧ (∀ i, i < 5 → (Hs (nI m') i ↔ (i < nc ∧ ¬ gA M 6 (5 * b + i) = -1))) ∧ loopN (bX12_palming_13 n0) (fun _ _ _ => none) w (nI m) (nI j) M = yPR n0 (nI m') M := by
  intro w
  induction w with
  | zero => intro j m _ h; omega
  | succ w ih =>
    intro j m hj hw hm hH
    have o2 : ¬ oob (gI M 34) 2 := by rw [h34]; exact nI_in (by omega) (by decide)
    have hcb : (gI M 34).toNatClampNeg = b := by rw [h34, nI_clamp (by omega)]
    rw [lpS, bX12_palming_13]
    by_cases h : nc ≤ j
    · obtain rfl : j = nc := by omega
      refine ⟨m, hm, hH, eq_f o2 (eq_t ?_ rfl)⟩
      rw [hcb, h5]
      exact nI_le (Nat.le_refl _) (by omega)
    · have e5 : (5 : Int32) * gI M 34 + nI j = nI (5 * b + j) := by rw [h34, n5]
      have o10 : ¬ oob ((5 : Int32) * gI M 34 + nI j) 10 := by rw [e5]; exact nI_in (by omega) (by decide)
      have hci : ((5 : Int32) * gI M 34 + nI j).toNatClampNeg = 5 * b + j := by rw [e5, nI_clamp (by omega)]
      have hlt : ¬ gA M 5 (gI M 34).toNatClampNeg ≤ nI j := by rw [hcb, h5]; exact nI_ge (by omega) (by omega)
      by_cases g : gA M 6 (5 * b + j) = -1
      · obtain ⟨m', g1, g2, g3⟩ := ih (j + 1) m (by omega) (by omega) hm (fun i hi => by
          rw [hH i hi]
          constructor
          · intro q; exact ⟨by omega, q.2⟩
          · intro q
            refine ⟨?_, q.2⟩
            by_cases e : i = j
            · subst e; exact absurd g q.2
            · omega)
        refine ⟨m', g1, g2, eq_f o2 (eq_f hlt (eq_f o10 (eq_t (by rw [hci]; exact g) ?_)))⟩
        unfold fX12_palming_51
        rw [nI_1, Int32.or_zero]
        exact g3
      · have hb := or_bit m hm j (by omega)
        obtain ⟨m', g1, g2, g3⟩ := ih (j + 1) (m ||| 2 ^ j) (by omega) (by omega) hb.2.1 (fun i hi => by
          rw [Hs_or hm (by omega) hi, hH i hi]
          constructor
          · rintro (q | q)
            · exact ⟨by omega, q.2⟩
            · subst q; exact ⟨by omega, g⟩
          · intro q
            by_cases e : i = j
            · exact Or.inr e
            · exact Or.inl ⟨by omega, q.2⟩)
        refine ⟨m', g1, g2, eq_f o2 (eq_f hlt (eq_f o10 (eq_f (by rw [hci]; exact g) ?_)))⟩
        unfold fX12_palming_51
        rw [nI_1, hb.1]
        exact g3
theorem TownR.setH {q b nt nc nd nr C c t : Nat} {MX MY : Mem} (h : TownR q b nt nc nd nr C MX MY) (hc : c < nc) (ht : t < nt) : TownR q b nt nc nd nr C (sA MX (q + 5) c (nI t)) (sA MY 6 (5 * b + c) (nI t)) := by
  obtain ⟨⟨⟨a1, a2, a3⟩, ⟨a4, a5, a6⟩, ⟨a7, a8, a9⟩⟩, b1, b2, b3, ⟨c1, c2, c3⟩, ⟨p, p1, p2, p3⟩, d1, d2, d3⟩ := h
  have xn : ∀ a, a ≠ q + 5 → gA (sA MX (q + 5) c (nI t)) a = gA MX a := fun a ha => gA_sA_ne ha
  refine ⟨⟨⟨a1, a2, ?_⟩, ⟨a4, a5, ?_⟩, ⟨a7, a8, ?_⟩⟩, ?_, fun i hi => ?_, ?_, ⟨c1, c2, ?_⟩, ⟨p, p1, p2, p3⟩, ?_, ?_, d3⟩
  · rw [xn _ (by omega)]; exact a3
  · rw [xn _ (by omega)]; exact a6
  · rw [xn _ (by omega)]; exact a9
  · rw [xn _ (by omega), xn _ (by omega)]; exact b1
  · dsimp only
    rw [gA_sA, if_pos rfl, gA_sA, if_pos rfl]
    by_cases e : i = c
    · rw [if_pos e, if_pos (by omega)]
      exact ⟨rfl, Or.inr ⟨t, ht, rfl⟩⟩
    · rw [if_neg e, if_neg (by omega)]
      exact b2 i hi
  · rw [xn _ (by omega), xn _ (by omega)]; exact b3
  · rw [xn _ (by omega), xn _ (by omega), xn _ (by omega)]; exact c3
  · unfold FmR xlist at d1 ⊢
    rw [xn _ (by omega)]
    exact d1
  · unfold FmR xlist at d2 ⊢
    rw [xn _ (by omega)]
    exact d2
def xPalm (n0 : Nat) (M : Mem) : Option (Int32 × Mem) :=
    (fX4_skipFirst n0 (1 : Int32) M).bind fun z192 =>
    if z192.1 = 0 then
      some ((0 : Int32), z192.2)
    else
      (fX4_readPalm n0 z192.2).bind fun z199 =>
      if z199.1 = 0 then
        some ((0 : Int32), z199.2)
      else
        some ((1 : Int32), z199.2)
theorem palmS {n0 L s q b nt nc nd nr C : Nat} {MX MY : Mem} (hn : 1601 ≤ n0) (h : Rd L s q b nt nc nd nr C MX MY) (hk : gI MX 386 = 267) : StO L s q b MX MY (xPalm n0 MX) (fX12_palming n0 MY) := by
  obtain ⟨hP, hA, hT, hC, hCs⟩ := h
  obtain ⟨-, f2⟩ := fstP (n0 := n0) (full := False) hn hP (by rw [hk]; decide) (by rw [hk]; decide)
  obtain ⟨MX1, MY1, s1, ex1, ey1, hs1, hP1, fx1, fy1⟩ := f2 id
  rw [bI_t (show ¬ False from id)] at ex1
  rw [bI_f (show ¬ False from id)] at ey1
  have q7 := hA.2.1
  have hb := hA.2.2.2
  have hA1 : At q b MX1 MY1 := hA.fr fx1.q fy1.b
  have hT1 : TownR q b nt nc nd nr C MX1 MY1 := hT.tok q7 fx1 fy1
  have c5 := hT1.1.2.1.2.2.1
  have t6 := hT1.1.1.2.2.1
  obtain ⟨m, hm, hH, eloop⟩ := yPloop (n0 := n0) hb c5 hA1.2.2.1 hT1.1.2.1.2.1 n0 0 0 (by omega) (by omega) (by omega) (fun i hi => ⟨fun g => absurd g (Hs0 (by omega)), fun g => by omega⟩)
  have ypal : ∀ r, yPR n0 (nI m) MY1 = r → fX12_palming n0 MY = r := fun r hr => by
    unfold fX12_palming fX12_palming_13
    exact eq_b ey1 (eq_f i10 (eloop.trans hr))
  unfold xPalm fX4_readPalm
  have yF : ∀ M, ¬ gI M 8 ≤ 0 → fX12_knownBut n0 1 (nI m) MY1 = some (0, M) → yPR n0 (nI m) MY1 = some M := fun M h8 e => by
    unfold yPR
    exact eq_b e (eq_b (ymustF h8) (eq_b (ykF h8) (eq_f (pos_ne h8) rfl)))
  rcases corP (n0 := n0) (nI m) hn hP1 hA1 hT1.1 with ⟨MX2, MY2, ex2, ey2, hF, fx2, fy2⟩ | ⟨c, hc, ex2, hc3, hc4⟩
  · exact Or.inr ⟨MX2, MY2, eq_b ex1 (eq_f i10 (eq_b (eq_b ex2 (eq_t rfl rfl)) (eq_t rfl rfl))), ypal _ (yF MY2 hF.pos ey2), hF, fx1.q.tr fx2.q, fy1.b.tr fy2.b⟩
  have nc1 : ¬ nI c = -1 := nI_m1 (by omega)
  have oc : ¬ oob (nI c) 5 := nI_in (by omega) (by decide)
  have hcl : (nI c).toNatClampNeg = c := nI_clamp (by omega)
  have xp : gA MX1 (gR MX1 130 + 5) (nI c).toNatClampNeg = gA MY1 6 (5 * b + c) := by
    rw [hA1.1, hcl]
    exact (hT1.2.2.1 c hc).1
  by_cases hp : gA MY1 6 (5 * b + c) = -1
  rotate_left
  · have e3 := hc3 ((hH c (by omega)).mpr ⟨hc, hp⟩)
    refine Or.inr ⟨sI (sI MX1 391 3) 392 (nI s1), sI (sI MY1 8 3) 9 (nI s1), ?_, ypal _ (yF _ (n8f (k := 3) (by decide) (by decide)) e3), Flt.mk (k := 3) (by decide) (by decide), fx1.q.tr FIf.q, fy1.b.tr FYf.b⟩
    refine eq_b ex1 (eq_f i10 (eq_b (eq_b ex2 (eq_f nc1 (eq_f oc (eq_f ?_ (eq_b xfail (eq_t (Or.inl rfl) rfl)))))) (eq_t rfl ?_)))
    · show ¬ gA MX1 (gR MX1 130 + 5) (nI c).toNatClampNeg = -1
      rw [xp]; exact hp
    · show some ((0 : Int32), sI (sI MX1 391 3) 392 (gI MX1 387)) = _
      rw [hP1.st]
  have xp1 : gA MX1 (gR MX1 130 + 5) (nI c).toNatClampNeg = -1 := xp.trans hp
  obtain ⟨MX2, MY2, s2, ax2, ey2, hs2, hP2, fx2, fy2⟩ := hc4 (fun g => ((hH c (by omega)).mp g).2 hp)
  rcases skW (i := 8) (y := 6840691) (kk := 268) hn (by decide) (by decide) (by decide) hP2 with ⟨MX3, MY3, s3, ex3, ey3, hs3, hP3, fx3, fy3⟩ | ⟨MX3, MY3, ex3, ey3, hF, fx3, fy3⟩
  rotate_left
  · refine Or.inr ⟨MX3, MY3, eq_b ex1 (eq_f i10 (eq_b (eq_b ex2 (eq_f nc1 (eq_f oc (eq_t xp1 (eq_b ax2 (eq_b ex3 (eq_t rfl rfl))))))) (eq_t rfl rfl))), ypal _ ?_, hF, (fx1.q.tr fx2.q).tr fx3.q, (fy1.b.tr fy2.b).tr fy3.b⟩
    unfold yPR
    exact eq_b ey2 (eq_b ey3 (eq_b (ykF hF.pos) (eq_f (pos_ne hF.pos) rfl)))
  have fx13 := fx2.tr fx3
  have fy13 := fy2.tr fy3
  have hA3 : At q b MX3 MY3 := hA1.fr fx13.q fy13.b
  have hT3 : TownR q b nt nc nd nr C MX3 MY3 := hT1.tok q7 fx13 fy13
  rcases thgP (n0 := n0) hn hP3 hA3 hT3.1 with ⟨k1, e1⟩ | ⟨k1, e0, e1⟩ | ⟨k1, t, ht, e0, MX4, MY4, s4, ax4, ey4, hs4, hP4, fx4, fy4⟩
  · refine Or.inr ⟨sI (sI MX3 391 1) 392 (gI MX3 388), sI (sI MY3 8 1) 9 (gI MX3 388), eq_b ex1 (eq_f i10 (eq_b (eq_b ex2 (eq_f nc1 (eq_f oc (eq_t xp1 (eq_b ax2 (eq_b ex3 (eq_f i10 (eq_f k1 (eq_b xfailH (eq_t (Or.inl rfl) rfl)))))))))) (eq_t rfl rfl))), ypal _ ?_, Flt.mk (k := 1) (by decide) (by decide), (fx1.q.tr fx13.q).tr FIf.q, (fy1.b.tr fy13.b).tr FYf.b⟩
    unfold yPR
    exact eq_b ey2 (eq_b ey3 (eq_b e1 (eq_f (pos_ne (n8f (k := 1) (by decide) (by decide))) rfl)))
  · refine Or.inr ⟨sI (sI MX3 391 3) 392 (nI s3), sI (sI MY3 8 3) 9 (nI s3), eq_b ex1 (eq_f i10 (eq_b (eq_b ex2 (eq_f nc1 (eq_f oc (eq_t xp1 (eq_b ax2 (eq_b ex3 (eq_f i10 (eq_t k1 (eq_b e0 (eq_t rfl (eq_b xfail (eq_t (Or.inl rfl) rfl)))))))))))) (eq_t rfl ?_))), ypal _ ?_, Flt.mk (k := 3) (by decide) (by decide), (fx1.q.tr fx13.q).tr FIf.q, (fy1.b.tr fy13.b).tr FYf.b⟩
    · show some ((0 : Int32), sI (sI MX3 391 3) 392 (gI MX3 387)) = _
      rw [hP3.st]
    · unfold yPR
      exact eq_b ey2 (eq_b ey3 (eq_b e1 (eq_f (pos_ne (n8f (k := 3) (by decide) (by decide))) rfl)))
  · have nt1 : ¬ nI t = -1 := nI_m1 (by omega)
    have hT4 : TownR q b nt nc nd nr C MX4 MY4 := hT3.tok q7 fx4 fy4
    have x130 : gR MX4 130 = q := by rw [fx4.R]; exact hA3.1
    have y34 : gI MY4 34 = nI b := (fy4.1 34 (by omega)).trans hA3.2.2.1
    have fyE : FY2 b MY (sA MY4 6 (5 * b + c) (nI t)) := ((fy1.b.tr fy13.b).tr fy4.b).a (by unfold regA; omega)
    have fxE : FX2 q MX (sA MX4 (q + 5) c (nI t)) := ((fx1.q.tr fx13.q).tr fx4.q).a (by omega)
    refine Or.inl ⟨_, _, s4, nt, nc, nd, nr, C, ?_, ypal _ ?_, by omega, ⟨?_, hA.fr fxE fyE, hT4.setH hc ht, ?_, by omega⟩, fxE, fyE⟩
    · refine eq_b ex1 (eq_f i10 (eq_b (eq_b ex2 (eq_f nc1 (eq_f oc (eq_t xp1 (eq_b ax2 (eq_b ex3 (eq_f i10 (eq_t k1 (eq_b e0 (eq_f nt1 (eq_b ax4 (eq_f oc (eq_n rfl)))))))))))) ) (eq_f i10 ?_)))
      show some ((1 : Int32), sA MX4 (gR MX4 130 + 5) (nI c).toNatClampNeg (nI t)) = _
      rw [x130, hcl]
    · unfold yPR
      have e5 : (5 : Int32) * gI MY4 34 + nI c = nI (5 * b + c) := by rw [y34, n5]
      refine eq_b ey2 (eq_b ey3 (eq_b ey4 (eq_t hP4.f8 (eq_f (by show ¬ oob ((5 : Int32) * gI MY4 34 + nI c) 10; rw [e5]; exact nI_in (by omega) (by decide)) ?_))))
      show some (sA MY4 6 ((5 : Int32) * gI MY4 34 + nI c).toNatClampNeg (nI t)) = _
      rw [e5, nI_clamp (by omega)]
    · exact hP4.cong (fun j h1 h2 => rfl) rfl (gA_sA_ne (by omega)) (gA_sA_ne (by omega)) (fun j _ => rfl) rfl (gA_sA_ne (by decide))
    · show gI MY4 33 = _
      rw [fy4.1 33 (by omega), fy3.1 33 (by omega), fy2.1 33 (by omega), fy1.1 33 (by omega)]
      exact hC
end
section
/-! STATEMENTS: road -/
section RD
variable {n0 q nr : Nat} {x1 x2 : Int32} {M : Mem}
theorem xr62 {k2 : Int32 → Int32 → Int32 → Mem → Option (Int32 × Mem)} {x3 x4 u0 : Int32} (h : ¬ x4 = 0 ∨ ¬ u0 = 0) : fX9_hasRoad_62 n0 q k2 x1 x2 x3 x4 u0 M = some (1, M) := by
  unfold fX9_hasRoad_62
  by_cases g : x4 = 0
  · rcases h with h | h
    · exact absurd g h
    · exact eq_t g (eq_f h rfl)
  · exact eq_f g rfl
theorem xr35 {j : Nat} {k2 : Int32 → Int32 → Int32 → Mem → Option (Int32 × Mem)} {u0 : Int32} (hj : j < 10) : fX9_hasRoad_35 n0 q k2 x1 x2 (nI j) u0 M = fX9_hasRoad_62 n0 q k2 x1 x2 (nI j) u0 (bI (gA M (q + 6) j = x2 ∧ gA M (q + 7) j = x1)) M := by
  have o : ¬ oob (nI j) 10 := nI_in hj (by decide)
  have hcl : (nI j).toNatClampNeg = j := nI_clamp (by omega)
  unfold fX9_hasRoad_35 fX9_hasRoad_61
  simp only [hcl]
  by_cases h1 : gA M (q + 6) j = x2
  · by_cases h2 : gA M (q + 7) j = x1
    · rw [bI_t ⟨h1, h2⟩]
      exact eq_f o (eq_t h1 (eq_f o (eq_t h2 rfl)))
    · rw [bI_f (fun g => h2 g.2)]
      exact eq_f o (eq_t h1 (eq_f o (eq_f h2 rfl)))
  · rw [bI_f (fun g => h1 g.1)]
    exact eq_f o (eq_f h1 rfl)
end RD
theorem xroadL {n0 q nr a c : Nat} {M : Mem} (h10 : nr ≤ 10) (hr : gI M (128 * q + 8) = nI nr) : ∀ (w j : Nat), j ≤ nr → nr < w + j → (∀ k, k < j → ¬ Jn (gA M (q + 6)) (gA M (q + 7)) k a c) → (loopN (bX9_hasRoad_2 n0 q) (fun _ _ _ _ => none) w (nI a) (nI c) (nI j) M = some (1, M) ∧ ∃ k, k < nr ∧ Jn (gA M (q + 6)) (gA M (q + 7)) k a c) ∨ (loopN (bX9_hasRoad_2 n0 q) (fun _ _ _ _ => none) w (nI a) (nI c) (nI j) M = some (0, M) ∧ ∀ k, k < nr → ¬ Jn (gA M (q + 6)) (gA M (q + 7)) k a c) := by
  intro w
  induction w with
  | zero => intro j _ h; omega
  | succ w ih =>
    intro j hj hw hne
    rw [lpS, bX9_hasRoad_2]
    by_cases h : nr ≤ j
    · exact Or.inr ⟨eq_t (by rw [hr]; exact nI_le h (by omega)) rfl, fun k hk => hne k (by omega)⟩
    · have o : ¬ oob (nI j) 10 := nI_in (by omega) (by decide)
      have hcl : (nI j).toNatClampNeg = j := nI_clamp (by omega)
      have g1 : ¬ gI M (128 * q + 8) ≤ nI j := by rw [hr]; exact nI_ge (by omega) (by omega)
      simp only [hcl]
      by_cases e1 : gA M (q + 6) j = nI a ∧ gA M (q + 7) j = nI c
      · refine Or.inl ⟨eq_f g1 (eq_f o (eq_t e1.1 (eq_f o (eq_t e1.2 ?_)))), j, by omega, Or.inl e1⟩
        rw [xr35 (by omega)]
        exact xr62 (Or.inl i10)
      · have mid : ∀ r, fX9_hasRoad_35 n0 q (loopN (bX9_hasRoad_2 n0 q) (fun _ _ _ _ => none) w) (nI a) (nI c) (nI j) 0 M = r → (if gI M (128 * q + 8) ≤ nI j then some (0, M) else if oob (nI j) 10 then none else if gA M (q + 6) j = nI a then if oob (nI j) 10 then none else if gA M (q + 7) j = nI c then fX9_hasRoad_35 n0 q (loopN (bX9_hasRoad_2 n0 q) (fun _ _ _ _ => none) w) (nI a) (nI c) (nI j) 1 M else fX9_hasRoad_34 n0 q (loopN (bX9_hasRoad_2 n0 q) (fun _ _ _ _ => none) w) (nI a) (nI c) (nI j) M else fX9_hasRoad_34 n0 q (loopN (bX9_hasRoad_2 n0 q) (fun _ _ _ _ => none) w) (nI a) (nI c) (nI j) M) = r := by
          intro r hr'
          by_cases e2 : gA M (q + 6) j = nI a
          · exact eq_f g1 (eq_f o (eq_t e2 (eq_f o (eq_f (fun e3 => e1 ⟨e2, e3⟩) hr'))))
          · exact eq_f g1 (eq_f o (eq_f e2 hr'))
        by_cases e2 : gA M (q + 6) j = nI c ∧ gA M (q + 7) j = nI a
        · refine Or.inl ⟨mid _ ?_, j, by omega, Or.inr e2⟩
          rw [xr35 (by omega)]
          exact xr62 (Or.inr (bz e2))
        · have e3 : fX9_hasRoad_35 n0 q (loopN (bX9_hasRoad_2 n0 q) (fun _ _ _ _ => none) w) (nI a) (nI c) (nI j) 0 M = loopN (bX9_hasRoad_2 n0 q) (fun _ _ _ _ => none) w (nI a) (nI c) (nI (j + 1)) M := by
            rw [xr35 (by omega), bI_f e2]
            unfold fX9_hasRoad_62
            rw [nI_1]
            exact eq_t rfl (eq_t rfl rfl)
          rcases ih (j + 1) (by omega) (by omega) (fun k hk => by
            by_cases q : k = j
            · rw [q]; exact fun g => by
                rcases g with g | g
                · exact e1 g
                · exact e2 g
            · exact hne k (by omega)) with ⟨r1, r2⟩ | ⟨r1, r2⟩
          · exact Or.inl ⟨mid _ (e3.trans r1), r2⟩
          · exact Or.inr ⟨mid _ (e3.trans r1), r2⟩
def yRR (n0 : Nat) (x1 x2 : Int32) (M : Mem) : Option Mem :=
    (fX12_knownBut n0 (1 : Int32) x2 M).bind fun z89 =>
    (fX12_must_ n0 (495874044019 : Int64) z89.2).bind fun z97 =>
    (fX12_number n0 (1 : Int32) (30 : Int32) z97).bind fun z104 =>
    if (gI z104.2 8) ≤ 0 then
      (fX12_at n0 (gI z104.2 34) x1 z89.1 z104.2).bind fun z128 =>
      if oob z128.1 50 then none else
      bnd (sA z128.2 8 (Int32.toNatClampNeg z128.1) z104.1) fun M133 =>
      (fX12_at n0 (gI M133 34) z89.1 x1 M133).bind fun z145 =>
      if oob z145.1 50 then none else
      bnd (sA z145.2 8 (Int32.toNatClampNeg z145.1) z104.1) fun M150 =>
      if oob (gI M150 34) 2 then none else
      if oob (gI M150 34) 2 then none else
      some (sA M150 7 (Int32.toNatClampNeg (gI M150 34)) ((gA M150 7 (Int32.toNatClampNeg (gI M150 34))) + (1 : Int32)))
    else
      some z104.2
theorem n25 (b a c : Nat) : (25 : Int32) * nI b + (5 : Int32) * nI a + nI c = nI (25 * b + (5 * a + c)) := by
  rw [show 25 * b + (5 * a + c) = 25 * b + 5 * a + c by omega, ← nI_add, ← nI_add, ← nI_mul, ← nI_mul]
  rfl
theorem yat {n0 b a c : Nat} {M : Mem} : fX12_at n0 (nI b) (nI a) (nI c) M = some (nI (25 * b + (5 * a + c)), M) := by
  unfold fX12_at
  rw [n25]
theorem yRloop {n0 b a : Nat} {M : Mem} (hb : b ≤ 1) (ha : a < 5) (h34 : gI M 34 = nI b) : ∀ (w j m : Nat), j ≤ 5 → 5 < w + j → m < 32 → (∀ i, i < 5 → (Hs (nI m) i ↔ (i = a ∨ (i < j ∧ ¬ gA M 8 (25 * b + (5 * a + i)) ≤ 0)))) → ∃ m', m' < 32 ∧ (∀ i, i < 5 → (Hs (nI m') i ↔ (i = a ∨ ¬ gA M 8 (25 * b + (5 * a + i)) ≤ 0))) ∧ loopN (bX12_roading_47 n0) (fun _ _ _ _ => none) w (nI a) (nI m) (nI j) M = yRR n0 (nI a) (nI m') M := by
  intro w
  induction w with
  | zero => intro j m _ h; omega
  | succ w ih =>
    intro j m hj hw hm hH
    rw [lpS, bX12_roading_47]
    by_cases h : 5 ≤ j
    · refine ⟨m, hm, fun i hi => ?_, eq_t (nI_le (a := 5) h (by omega)) rfl⟩
      rw [hH i hi]
      constructor
      · rintro (q | q)
        · exact Or.inl q
        · exact Or.inr q.2
      · rintro (q | q)
        · exact Or.inl q
        · exact Or.inr ⟨by omega, q⟩
    · have e5 : fX12_at n0 (gI M 34) (nI a) (nI j) M = some (nI (25 * b + (5 * a + j)), M) := by rw [h34]; exact yat
      have o : ¬ oob (nI (25 * b + (5 * a + j))) 50 := nI_in (by omega) (by decide)
      have hci : (nI (25 * b + (5 * a + j))).toNatClampNeg = 25 * b + (5 * a + j) := nI_clamp (by omega)
      have hlt : ¬ (5 : Int32) ≤ nI j := nI_ge (b := 5) (by omega) (by decide)
      by_cases g : gA M 8 (25 * b + (5 * a + j)) ≤ 0
      · obtain ⟨m', g1, g2, g3⟩ := ih (j + 1) m (by omega) (by omega) hm (fun i hi => by
          rw [hH i hi]
          constructor
          · rintro (q | q)
            · exact Or.inl q
            · exact Or.inr ⟨by omega, q.2⟩
          · rintro (q | q)
            · exact Or.inl q
            · refine Or.inr ⟨?_, q.2⟩
              by_cases e : i = j
              · subst e; exact absurd g q.2
              · omega)
        refine ⟨m', g1, g2, eq_f hlt (eq_b e5 (eq_f o (eq_t (by show gA M 8 (nI (25 * b + (5 * a + j))).toNatClampNeg ≤ 0; rw [hci]; exact g) ?_)))⟩
        unfold fX12_roading_78
        rw [nI_1, Int32.or_zero]
        exact g3
      · have hb := or_bit m hm j (by omega)
        obtain ⟨m', g1, g2, g3⟩ := ih (j + 1) (m ||| 2 ^ j) (by omega) (by omega) hb.2.1 (fun i hi => by
          rw [Hs_or hm (by omega) hi, hH i hi]
          constructor
          · rintro ((q | q) | q)
            · exact Or.inl q
            · exact Or.inr ⟨by omega, q.2⟩
            · subst q; exact Or.inr ⟨by omega, g⟩
          · rintro (q | q)
            · exact Or.inl (Or.inl q)
            · by_cases e : i = j
              · exact Or.inr e
              · exact Or.inl (Or.inr ⟨by omega, q.2⟩))
        refine ⟨m', g1, g2, eq_f hlt (eq_b e5 (eq_f o (eq_f (by show ¬ gA M 8 (nI (25 * b + (5 * a + j))).toNatClampNeg ≤ 0; rw [hci]; exact g) ?_)))⟩
        unfold fX12_roading_78
        rw [nI_1, hb.1]
        exact g3
theorem one_bit : ∀ a, a < 5 → ((1 : Int32) <<< (nI a &&& 31)) = nI (2 ^ a) ∧ 2 ^ a < 32 ∧ ∀ i, i < 5 → ((((nI (2 ^ a) >>> (nI i &&& 31)) &&& (1 : Int32)) = (1 : Int32)) ↔ i = a) := by decide +kernel
theorem TownR.bumpR {q b nt nc nd nr C a c n : Nat} {MX MY : Mem} (h : TownR q b nt nc nd nr C MX MY) (hr : nr < 10) (ha : a < nc) (hc : c < nc) (hac : a ≠ c) (hn : 1 ≤ n ∧ n ≤ 30) (x1 : gA MX (q + 6) nr = nI a) (x2 : gA MX (q + 7) nr = nI c) (x3 : gA MX (q + 8) nr = nI n) : TownR q b nt nc nd (nr + 1) C (sI MX (128 * q + 8) (nI (nr + 1))) (sA (sA (sA MY 8 (25 * b + (5 * a + c)) (nI n)) 8 (25 * b + (5 * c + a)) (nI n)) 7 b (nI (nr + 1))) := by
  obtain ⟨⟨⟨a1, a2, a3⟩, ⟨a4, a5, a6⟩, ⟨a7, a8, a9⟩⟩, b1, b2, b3, ⟨c1, c2, c3⟩, ⟨p, p1, p2, p3⟩, d1, d2, d3⟩ := h
  have c5 := a6.1
  have yn : ∀ e, e ≠ 8 → e ≠ 7 → gA (sA (sA (sA MY 8 (25 * b + (5 * a + c)) (nI n)) 8 (25 * b + (5 * c + a)) (nI n)) 7 b (nI (nr + 1))) e = gA MY e := fun e h8 h7 => by rw [gA_sA_ne h7, gA_sA_ne h8, gA_sA_ne h8]
  refine ⟨⟨⟨?_, ?_, a3⟩, ⟨?_, ?_, a6⟩, ⟨?_, ?_, a9⟩⟩, ?_, ?_, ?_, ⟨gI_at, ?_, ⟨by omega, fun k hk => ?_, fun a' c' ha' hc' => ?_⟩⟩, ⟨p, p1, ?_, ?_⟩, ?_, ?_, d3⟩
  · rw [gI_ne (by omega)]; exact a1
  · rw [yn _ (by decide) (by decide)]; exact a2
  · rw [gI_ne (by omega)]; exact a4
  · rw [yn _ (by decide) (by decide)]; exact a5
  · rw [gI_ne (by omega)]; exact a7
  · rw [yn _ (by decide) (by decide)]; exact a8
  · intro i hi
    dsimp only
    rw [yn _ (by decide) (by decide), yn _ (by decide) (by decide)]
    exact b1 i hi
  · intro i hi
    dsimp only
    rw [yn _ (by decide) (by decide)]
    exact b2 i hi
  · intro i hi
    dsimp only
    rw [yn _ (by decide) (by decide), yn _ (by decide) (by decide)]
    exact b3 i hi
  · rw [gA_sA, if_pos rfl, if_pos rfl]
  · by_cases e : k = nr
    · subst e; exact ⟨a, c, n, ha, hc, hac, hn.1, hn.2, x1, x2, x3⟩
    · exact c3.2.1 k (by omega)
  · have y8 : gA (sA (sA (sA MY 8 (25 * b + (5 * a + c)) (nI n)) 8 (25 * b + (5 * c + a)) (nI n)) 7 b (nI (nr + 1))) 8 (25 * b + (5 * a' + c')) = if (a' = c ∧ c' = a) ∨ (a' = a ∧ c' = c) then nI n else gA MY 8 (25 * b + (5 * a' + c')) := by
      rw [gA_sA_ne (by decide), gA_sA, if_pos rfl, gA_sA, if_pos rfl]
      by_cases e1 : a' = c ∧ c' = a
      · rw [if_pos (by omega), if_pos (Or.inl e1)]
      · rw [if_neg (by omega)]
        by_cases e2 : a' = a ∧ c' = c
        · rw [if_pos (by omega), if_pos (Or.inr e2)]
        · rw [if_neg (by omega), if_neg (by omega)]
    dsimp only
    rw [y8]
    by_cases e : (a' = c ∧ c' = a) ∨ (a' = a ∧ c' = c)
    · rw [if_pos e]
      refine Or.inr ⟨nr, by omega, ?_, x3.symm⟩
      show (gA MX (q + 6) nr = _ ∧ gA MX (q + 7) nr = _) ∨ (gA MX (q + 6) nr = _ ∧ gA MX (q + 7) nr = _)
      rw [x1, x2]
      rcases e with ⟨rfl, rfl⟩ | ⟨rfl, rfl⟩
      · exact Or.inr ⟨rfl, rfl⟩
      · exact Or.inl ⟨rfl, rfl⟩
    · rw [if_neg e]
      rcases c3.2.2 a' c' ha' hc' with ⟨g1, g2⟩ | ⟨k, g1, g2, g3⟩
      · refine Or.inl ⟨g1, fun k hk g => ?_⟩
        by_cases ek : k = nr
        · subst ek
          have g' : (gA MX (q + 6) k = nI a' ∧ gA MX (q + 7) k = nI c') ∨ (gA MX (q + 6) k = nI c' ∧ gA MX (q + 7) k = nI a') := g
          rw [x1, x2, nI_eq (by omega) (by omega), nI_eq (by omega) (by omega), nI_eq (by omega) (by omega), nI_eq (by omega) (by omega)] at g'
          exact e (by omega)
        · exact g2 k (by omega) g
      · exact Or.inr ⟨k, by omega, g2, g3⟩
  · rw [gI_ne (by omega)]; exact p2
  · rw [yn _ (by decide) (by decide)]; exact p3
  · unfold FmR xlist ylist at d1 ⊢
    rw [gI_ne (by omega), yn _ (by decide) (by decide), yn _ (by decide) (by decide), yn _ (by decide) (by decide), yn _ (by decide) (by decide)]
    exact d1
  · unfold FmR xlist ylist at d2 ⊢
    rw [gI_ne (by omega), yn _ (by decide) (by decide), yn _ (by decide) (by decide), yn _ (by decide) (by decide), yn _ (by decide) (by decide)]
    exact d2
theorem xaddR {n0 q nr : Nat} {x1 x2 x3 : Int32} {M : Mem} (h : gI M (128 * q + 8) = nI nr) (ht : nr < 10) : fX9_addRoad n0 q x1 x2 x3 M = some (sI (sA (sA (sA M (q + 6) nr x1) (q + 7) nr x2) (q + 8) nr x3) (128 * q + 8) (nI (nr + 1))) := by
  have o : ¬ oob (gI M (128 * q + 8)) 10 := by rw [h]; exact nI_in ht (by decide)
  unfold fX9_addRoad
  refine eq_f (by rw [h]; exact nI_ge (b := 10) ht (by decide)) (eq_f o (eq_n (eq_f o (eq_n (eq_f o (eq_n ?_))))))
  simp only [gI_sA, h, nI_clamp (show nr < 2 ^ 31 by omega), nI_1]
theorem yRRF {n0 : Nat} {x1 x2 : Int32} {M : Mem} (h : ¬ gI M 8 ≤ 0) : yRR n0 x1 x2 M = some M := by
  unfold yRR
  exact eq_b (ykF h) (eq_b (ymustF h) (eq_b (ynumF h) (eq_f h rfl)))
theorem rod_eq {n0 : Nat} {u1 : Int32} {M : Mem} : fX12_roading_20 n0 u1 M = (fX12_counts n0 u1 M).bind fun z20 => if z20.1 = 0 then some z20.2 else (fX12_knownBut n0 (1 : Int32) (0 : Int32) z20.2).bind fun z30 => (fX12_must_ n0 (29807 : Int64) z30.2).bind fun z38 => loopN (bX12_roading_47 n0) (fun _ _ _ _ => none) n0 z30.1 ((1 : Int32) <<< (z30.1 &&& 31)) 0 z38 := rfl
theorem yRl {n0 b a : Nat} {M : Mem} (hn : 1601 ≤ n0) (hb : b ≤ 1) (ha : a < 5) (h34 : gI M 34 = nI b) : ∃ m', m' < 32 ∧ (∀ i, i < 5 → (Hs (nI m') i ↔ (i = a ∨ ¬ gA M 8 (25 * b + (5 * a + i)) ≤ 0))) ∧ loopN (bX12_roading_47 n0) (fun _ _ _ _ => none) n0 (nI a) ((1 : Int32) <<< (nI a &&& 31)) 0 M = yRR n0 (nI a) (nI m') M := by
  have h1 := one_bit a ha
  obtain ⟨m', g1, g2, g3⟩ := yRloop (n0 := n0) hb ha h34 n0 0 (2 ^ a) (by omega) (by omega) h1.2.1 (fun i hi => by
    constructor
    · intro g; exact Or.inl ((h1.2.2 i hi).mp g)
    · rintro (q | q)
      · exact (h1.2.2 i hi).mpr q
      · omega)
  refine ⟨m', g1, g2, ?_⟩
  rw [h1.1]
  exact g3
theorem roadS {n0 L s q b nt nc nd nr C : Nat} {MX MY : Mem} (hn : 1601 ≤ n0) (h : Rd L s q b nt nc nd nr C MX MY) (hk : gI MX 386 = 264) : StO L s q b MX MY (fX4_readStatement_171 n0 (bI (¬ nr = 10)) MX) (fX12_roading_20 n0 (bI (nr = 10)) MY) := by
  obtain ⟨hP, hA, hT, hC, hCs⟩ := h
  obtain ⟨f1, f2⟩ := fstP (n0 := n0) (full := nr = 10) hn hP (by rw [hk]; decide) (by rw [hk]; decide)
  rw [rod_eq]
  by_cases hf : nr = 10
  · obtain ⟨e1, e2⟩ := f1 hf
    refine Or.inr ⟨sI (sI MX 391 6) 392 (nI s), sI (sI MY 8 6) 9 (nI s), ?_, eq_b e2 (eq_t rfl rfl), Flt.mk (k := 6) (by decide) (by decide), FIf.q, FYf.b⟩
    unfold fX4_readStatement_171
    exact eq_b e1 (eq_t rfl rfl)
  obtain ⟨MX1, MY1, s1, ex1, ey1, hs1, hP1, fx1, fy1⟩ := f2 hf
  have q7 := hA.2.1
  have hb := hA.2.2.2
  have hA1 : At q b MX1 MY1 := hA.fr fx1.q fy1.b
  have hT1 : TownR q b nt nc nd nr C MX1 MY1 := hT.tok q7 fx1 fy1
  have c5 := hT1.1.2.1.2.2.1
  have hr10 : nr < 10 := by have := hT1.2.2.2.2.1.2.2.1; omega
  unfold fX4_readStatement_171 fX4_readRoad
  rcases corP (n0 := n0) 0 hn hP1 hA1 hT1.1 with ⟨MX2, MY2, ex2, ey2, hF, fx2, fy2⟩ | ⟨a, ha, ex2, -, hc4⟩
  · obtain ⟨m', -, -, el⟩ := yRl (n0 := n0) (a := 0) (M := MY2) hn hb (by decide) ((fy2.1 34 (by omega)).trans hA1.2.2.1)
    exact Or.inr ⟨MX2, MY2, eq_b ex1 (eq_f i10 (eq_b (eq_b ex2 (eq_t rfl rfl)) (eq_t rfl rfl))), eq_b ey1 (eq_f i10 (eq_b ey2 (eq_b (ymustF hF.pos) (el.trans (yRRF hF.pos))))), hF, fx1.q.tr fx2.q, fy1.b.tr fy2.b⟩
  have na1 : ¬ nI a = -1 := nI_m1 (by omega)
  obtain ⟨MX2, MY2, s2, ax2, ey2, hs2, hP2, fx2, fy2⟩ := hc4 (Hs0 (by omega))
  rcases skW (i := 5) (y := 29807) (kk := 265) hn (by decide) (by decide) (by decide) hP2 with ⟨MX3, MY3, s3, ex3, ey3, hs3, hP3, fx3, fy3⟩ | ⟨MX3, MY3, ex3, ey3, hF, fx3, fy3⟩
  rotate_left
  · obtain ⟨m', -, -, el⟩ := yRl (n0 := n0) (a := a) (M := MY3) hn hb (by omega) ((fy3.1 34 (by omega)).trans ((fy2.1 34 (by omega)).trans hA1.2.2.1))
    exact Or.inr ⟨MX3, MY3, eq_b ex1 (eq_f i10 (eq_b (eq_b ex2 (eq_f na1 (eq_b ax2 (eq_b ex3 (eq_t rfl rfl))))) (eq_t rfl rfl))), eq_b ey1 (eq_f i10 (eq_b ey2 (eq_b ey3 (el.trans (yRRF hF.pos))))), hF, (fx1.q.tr fx2.q).tr fx3.q, (fy1.b.tr fy2.b).tr fy3.b⟩
  have fx13 := fx2.tr fx3
  have fy13 := fy2.tr fy3
  have hA3 : At q b MX3 MY3 := hA1.fr fx13.q fy13.b
  have hT3 : TownR q b nt nc nd nr C MX3 MY3 := hT1.tok q7 fx13 fy13
  obtain ⟨m, hm, hH, el⟩ := yRl (n0 := n0) (a := a) (M := MY3) hn hb (by omega) hA3.2.2.1
  have yroad : ∀ r, yRR n0 (nI a) (nI m) MY3 = r → ((fX12_counts n0 (bI (nr = 10)) MY).bind fun z20 => if z20.1 = 0 then some z20.2 else (fX12_knownBut n0 (1 : Int32) (0 : Int32) z20.2).bind fun z30 => (fX12_must_ n0 (29807 : Int64) z30.2).bind fun z38 => loopN (bX12_roading_47 n0) (fun _ _ _ _ => none) n0 z30.1 ((1 : Int32) <<< (z30.1 &&& 31)) 0 z38) = r := fun r hr => eq_b ey1 (eq_f i10 (eq_b ey2 (eq_b ey3 (el.trans hr))))
  have yF : ∀ M, ¬ gI M 8 ≤ 0 → fX12_knownBut n0 1 (nI m) MY3 = some (0, M) → yRR n0 (nI a) (nI m) MY3 = some M := fun M h8 e => by
    unfold yRR
    exact eq_b e (eq_b (ymustF h8) (eq_b (ynumF h8) (eq_f h8 rfl)))
  rcases corP (n0 := n0) (nI m) hn hP3 hA3 hT3.1 with ⟨MX4, MY4, ex4, ey4, hF, fx4, fy4⟩ | ⟨c, hc, ex4, hc3, hc4⟩
  · exact Or.inr ⟨MX4, MY4, eq_b ex1 (eq_f i10 (eq_b (eq_b ex2 (eq_f na1 (eq_b ax2 (eq_b ex3 (eq_f i10 (eq_b ex4 (eq_t rfl rfl))))))) (eq_t rfl rfl))), yroad _ (yF MY4 hF.pos ey4), hF, (fx1.q.tr fx13.q).tr fx4.q, (fy1.b.tr fy13.b).tr fy4.b⟩
  have nc1 : ¬ nI c = -1 := nI_m1 (by omega)
  obtain ⟨r1, r2, rD⟩ := hT3.2.2.2.2.1
  -- is the road there already, or the corner the same
  have xF : ∀ Z, fX4_readRoad_63 n0 MX3 = Z → Z = some (0, sI (sI MX3 391 3) 392 (nI s3)) := fun Z hZ => by
    rw [← hZ]
    unfold fX4_readRoad_63
    rw [hP3.st]
    exact eq_b xfail (eq_t (Or.inl rfl) rfl)
  have r63 := xF _ rfl
  have hbad : ∀ (hx : (if nI c = nI a then fX4_readRoad_63 n0 MX3 else (fX9_hasRoad n0 (gR MX3 130) (nI a) (nI c) MX3).bind fun z57 => if z57.1 = 0 then (fX8_advance n0 z57.2).bind fun z83 => (fX8_skip n0 (266 : Int32) z83).bind fun z93 => if z93.1 = 0 then fX4_readRoad_110 n0 (nI a) (nI c) (-1 : Int32) z93.2 else (fX4_number n0 (1 : Int32) (30 : Int32) z93.2).bind fun z103 => fX4_readRoad_110 n0 (nI a) (nI c) z103.1 z103.2 else fX4_readRoad_63 n0 z57.2) = some (0, sI (sI MX3 391 3) 392 (nI s3))), Hs (nI m) c → StO L s q b MX MY ((fX4_skipFirst n0 (bI (¬ nr = 10)) MX).bind fun z171 => if z171.1 = 0 then some ((0 : Int32), z171.2) else ((fX4_cornerHere n0 z171.2).bind fun z1 => if z1.1 = (-1 : Int32) then some ((0 : Int32), z1.2) else (fX8_advance n0 z1.2).bind fun z16 => (fX8_skip n0 (265 : Int32) z16).bind fun z26 => if z26.1 = 0 then some ((0 : Int32), z26.2) else (fX4_cornerHere n0 z26.2).bind fun z35 => if z35.1 = (-1 : Int32) then some ((0 : Int32), z35.2) else if z35.1 = z1.1 then fX4_readRoad_63 n0 z35.2 else (fX9_hasRoad n0 (gR z35.2 130) z1.1 z35.1 z35.2).bind fun z57 => if z57.1 = 0 then (fX8_advance n0 z57.2).bind fun z83 => (fX8_skip n0 (266 : Int32) z83).bind fun z93 => if z93.1 = 0 then fX4_readRoad_110 n0 z1.1 z35.1 (-1 : Int32) z93.2 else (fX4_number n0 (1 : Int32) (30 : Int32) z93.2).bind fun z103 => fX4_readRoad_110 n0 z1.1 z35.1 z103.1 z103.2 else fX4_readRoad_63 n0 z57.2).bind fun z178 => if z178.1 = 0 then some ((0 : Int32), z178.2) else some ((1 : Int32), z178.2)) ((fX12_counts n0 (bI (nr = 10)) MY).bind fun z20 => if z20.1 = 0 then some z20.2 else (fX12_knownBut n0 (1 : Int32) (0 : Int32) z20.2).bind fun z30 => (fX12_must_ n0 (29807 : Int64) z30.2).bind fun z38 => loopN (bX12_roading_47 n0) (fun _ _ _ _ => none) n0 z30.1 ((1 : Int32) <<< (z30.1 &&& 31)) 0 z38) := by
    intro hx hh
    exact Or.inr ⟨sI (sI MX3 391 3) 392 (nI s3), sI (sI MY3 8 3) 9 (nI s3), eq_b ex1 (eq_f i10 (eq_b (eq_b ex2 (eq_f na1 (eq_b ax2 (eq_b ex3 (eq_f i10 (eq_b ex4 (eq_f nc1 hx))))))) (eq_t rfl rfl))), yroad _ (yF _ (n8f (k := 3) (by decide) (by decide)) (hc3 hh)), Flt.mk (k := 3) (by decide) (by decide), (fx1.q.tr fx13.q).tr FIf.q, (fy1.b.tr fy13.b).tr FYf.b⟩
  by_cases hac : c = a
  · exact hbad (eq_t (by rw [hac]) r63) ((hH c (by omega)).mpr (Or.inl hac))
  have nac : ¬ nI c = nI a := fun g => hac ((nI_eq (by omega) (by omega)).mp g)
  have hR := xroadL (n0 := n0) (q := q) (nr := nr) (a := a) (c := c) (M := MX3) rD.1 r1 n0 0 (by omega) (by omega) (fun k hk => by omega)
  rcases hR with ⟨e1, k, hk1, hk2⟩ | ⟨e1, hno⟩
  · have e1' : fX9_hasRoad n0 (gR MX3 130) (nI a) (nI c) MX3 = some (1, MX3) := by rw [hA3.1]; exact e1
    refine hbad (eq_f nac (eq_b e1' (eq_f i10 r63))) ((hH c (by omega)).mpr (Or.inr ?_))
    rcases rD.2.2 a c (by omega) (by omega) with ⟨_, g2⟩ | ⟨k', g1, g2, g3⟩
    · exact absurd hk2 (g2 k hk1)
    · obtain ⟨_, _, v, _, _, _, v1, v30, _, _, ev⟩ := rD.2.1 k' g1
      dsimp only at g3
      rw [g3, ev]
      exact nI_nle v1 (by omega)
  have e1' : fX9_hasRoad n0 (gR MX3 130) (nI a) (nI c) MX3 = some (0, MX3) := by rw [hA3.1]; exact e1
  have hsy : gA MY3 8 (25 * b + (5 * a + c)) = 0 := by
    rcases rD.2.2 a c (by omega) (by omega) with ⟨g1, _⟩ | ⟨k', g1, g2, _⟩
    · exact g1
    · exact absurd g2 (hno k' g1)
  obtain ⟨MX4, MY4, s4, ax4, ey4, hs4, hP4, fx4, fy4⟩ := hc4 (fun g => by
    rcases (hH c (by omega)).mp g with g | g
    · exact hac g
    · exact g (by rw [hsy]; exact i00))
  rcases skW (i := 6) (y := 495874044019) (kk := 266) hn (by decide) (by decide) (by decide) hP4 with ⟨MX5, MY5, s5, ex5, ey5, hs5, hP5, fx5, fy5⟩ | ⟨MX5, MY5, ex5, ey5, hF, fx5, fy5⟩
  rotate_left
  · refine Or.inr ⟨MX5, MY5, eq_b ex1 (eq_f i10 (eq_b (eq_b ex2 (eq_f na1 (eq_b ax2 (eq_b ex3 (eq_f i10 (eq_b ex4 (eq_f nc1 (eq_f nac (eq_b e1' (eq_t rfl (eq_b ax4 (eq_b ex5 (eq_t rfl (by unfold fX4_readRoad_110; exact eq_t rfl rfl)))))))))))))) (eq_t rfl rfl))), yroad _ ?_, hF, ((fx1.q.tr fx13.q).tr fx4.q).tr fx5.q, ((fy1.b.tr fy13.b).tr fy4.b).tr fy5.b⟩
    unfold yRR
    exact eq_b ey4 (eq_b ey5 (eq_b (ynumF hF.pos) (eq_f hF.pos rfl)))
  rcases numP (lo := 1) (hi := 30) hn hP5 with ⟨v, MX6, MY6, s6, hv, lo3, hi3, ex6, ey6, hs6, hP6, fx6, fy6⟩ | ⟨MX6, MY6, u, ex6, ey6, hF, fx6, fy6⟩
  rotate_left
  · refine Or.inr ⟨MX6, MY6, eq_b ex1 (eq_f i10 (eq_b (eq_b ex2 (eq_f na1 (eq_b ax2 (eq_b ex3 (eq_f i10 (eq_b ex4 (eq_f nc1 (eq_f nac (eq_b e1' (eq_t rfl (eq_b ax4 (eq_b ex5 (eq_f i10 (eq_b ex6 (by unfold fX4_readRoad_110; exact eq_t rfl rfl))))))))))))))) (eq_t rfl rfl))), yroad _ ?_, hF, (((fx1.q.tr fx13.q).tr fx4.q).tr fx5.q).tr fx6.q, (((fy1.b.tr fy13.b).tr fy4.b).tr fy5.b).tr fy6.b⟩
    unfold yRR
    exact eq_b ey4 (eq_b ey5 (eq_b ey6 (eq_f hF.pos rfl)))
  -- the statement is read
  have nv3 : ¬ nI v = -1 := nI_m1 (by omega)
  have fx36 : FI 386 392 MX3 MX6 := (fx4.tr fx5).tr fx6
  have fy36 : FrY MY3 MY6 := (fy4.tr fy5).tr fy6
  have hT6 : TownR q b nt nc nd nr C MX6 MY6 := hT3.tok q7 fx36 fy36
  have x130 : gR MX6 130 = q := by rw [fx36.R]; exact hA3.1
  have y34 : gI MY6 34 = nI b := (fy36.1 34 (by omega)).trans hA3.2.2.1
  have hT7 : TownR q b nt nc nd nr C (sA (sA (sA MX6 (q + 6) nr (nI a)) (q + 7) nr (nI c)) (q + 8) nr (nI v)) MY6 := by
    refine hT6.fine (fun j h1 h2 => rfl) (fun e i h1 h2 h3 => ?_) (fun _ _ _ _ _ => rfl) (fun _ _ _ _ => rfl)
    unfold frX at h3
    rw [gA_sA]
    by_cases e3 : e = q + 8
    · rw [if_pos e3, if_neg (by omega), gA_sA_ne (by omega), gA_sA_ne (by omega), e3]
    · rw [if_neg e3, gA_sA]
      by_cases e2 : e = q + 7
      · rw [if_pos e2, if_neg (by omega), gA_sA_ne (by omega), e2]
      · rw [if_neg e2, gA_sA]
        by_cases e1 : e = q + 6
        · rw [if_pos e1, if_neg (by omega), e1]
        · rw [if_neg e1]
  have hT8 := hT7.bumpR hr10 ha hc (fun g => hac g.symm) ⟨(nI_leI (a := 1) (b := v) (by decide) (by omega)).mp lo3, (nI_leI (a := v) (b := 30) (by omega) (by decide)).mp hi3⟩ (by rw [gA_sA_ne (by omega), gA_sA_ne (by omega), gA_sA, if_pos rfl, if_pos rfl]) (by rw [gA_sA_ne (by omega), gA_sA, if_pos rfl, if_pos rfl]) (by rw [gA_sA, if_pos rfl, if_pos rfl])
  have fyE : FY2 b MY (sA (sA (sA MY6 8 (25 * b + (5 * a + c)) (nI v)) 8 (25 * b + (5 * c + a)) (nI v)) 7 b (nI (nr + 1))) := ((((fy1.b.tr fy13.b).tr fy36.b).a (by unfold regA; omega)).a (by unfold regA; omega)).a (by unfold regA; omega)
  have fxE : FX2 q MX (sI (sA (sA (sA MX6 (q + 6) nr (nI a)) (q + 7) nr (nI c)) (q + 8) nr (nI v)) (128 * q + 8) (nI (nr + 1))) := (((((fx1.q.tr fx13.q).tr fx36.q).a (by omega)).a (by omega)).a (by omega)).i (by unfold rgX; omega)
  have hd : fX4_readRoad_110 n0 (nI a) (nI c) (nI v) MX6 = some (1, sI (sA (sA (sA MX6 (q + 6) nr (nI a)) (q + 7) nr (nI c)) (q + 8) nr (nI v)) (128 * q + 8) (nI (nr + 1))) := by
    unfold fX4_readRoad_110
    refine eq_f nv3 (eq_b ?_ rfl)
    show fX9_addRoad n0 (gR MX6 130) _ _ _ MX6 = _
    rw [x130]
    exact xaddR hT6.2.2.2.2.1.1 hr10
  refine Or.inl ⟨_, _, s6, nt, nc, nd, nr + 1, C, eq_b ex1 (eq_f i10 (eq_b (eq_b ex2 (eq_f na1 (eq_b ax2 (eq_b ex3 (eq_f i10 (eq_b ex4 (eq_f nc1 (eq_f nac (eq_b e1' (eq_t rfl (eq_b ax4 (eq_b ex5 (eq_f i10 (eq_b ex6 hd)))))))))))))) (eq_f i10 rfl))), yroad _ ?_, by omega, ⟨?_, hA.fr fxE fyE, hT8, ?_, by omega⟩, fxE, fyE⟩
  · unfold yRR
    have a1 : fX12_at n0 (gI MY6 34) (nI a) (nI c) MY6 = some (nI (25 * b + (5 * a + c)), MY6) := by rw [y34]; exact yat
    have a2 : fX12_at n0 (gI (sA MY6 8 (25 * b + (5 * a + c)) (nI v)) 34) (nI c) (nI a) (sA MY6 8 (25 * b + (5 * a + c)) (nI v)) = some (nI (25 * b + (5 * c + a)), sA MY6 8 (25 * b + (5 * a + c)) (nI v)) := by
      show fX12_at n0 (gI MY6 34) _ _ _ = _
      rw [y34]; exact yat
    have k1 : (nI (25 * b + (5 * a + c))).toNatClampNeg = 25 * b + (5 * a + c) := nI_clamp (by omega)
    have k2 : (nI (25 * b + (5 * c + a))).toNatClampNeg = 25 * b + (5 * c + a) := nI_clamp (by omega)
    have o34 : ¬ oob (gI MY6 34) 2 := by rw [y34]; exact nI_in (by omega) (by decide)
    refine eq_b ey4 (eq_b ey5 (eq_b ey6 (eq_t (by show gI MY6 8 ≤ 0; rw [hP6.f8]; exact i00) (eq_b a1 (eq_f (nI_in (by omega) (by decide)) (eq_n ?_))))))
    show (fX12_at n0 (gI (sA MY6 8 (nI (25 * b + (5 * a + c))).toNatClampNeg (nI v)) 34) (nI c) (nI a) (sA MY6 8 (nI (25 * b + (5 * a + c))).toNatClampNeg (nI v))).bind _ = _
    rw [k1]
    refine eq_b a2 (eq_f (nI_in (by omega) (by decide)) (eq_n (eq_f o34 (eq_f o34 ?_))))
    show some (sA (sA (sA MY6 8 (25 * b + (5 * a + c)) (nI v)) 8 (nI (25 * b + (5 * c + a))).toNatClampNeg (nI v)) 7 (gI MY6 34).toNatClampNeg (gA (sA (sA MY6 8 (25 * b + (5 * a + c)) (nI v)) 8 (nI (25 * b + (5 * c + a))).toNatClampNeg (nI v)) 7 (gI MY6 34).toNatClampNeg + 1)) = _
    rw [k2, y34, nI_clamp (by omega), gA_sA_ne (show (7 : Nat) ≠ 8 by decide), gA_sA_ne (show (7 : Nat) ≠ 8 by decide), hT6.2.2.2.2.1.2.1, nI_1]
  · refine hP6.cong (fun j h1 h2 => ?_) ?_ ?_ ?_ (fun j _ => rfl) rfl ?_
    · rw [gI_ne (by omega)]; rfl
    · rw [gI_ne (by omega)]; rfl
    · show gA (sA (sA (sA MX6 (q + 6) nr (nI a)) (q + 7) nr (nI c)) (q + 8) nr (nI v)) 4 = _
      rw [gA_sA_ne (by omega), gA_sA_ne (by omega), gA_sA_ne (by omega)]
    · show gA (sA (sA (sA MX6 (q + 6) nr (nI a)) (q + 7) nr (nI c)) (q + 8) nr (nI v)) 6 = _
      rw [gA_sA_ne (by omega), gA_sA_ne (by omega), gA_sA_ne (by omega)]
    · rw [gA_sA_ne (by decide), gA_sA_ne (by decide), gA_sA_ne (by decide)]
  · show gI MY6 33 = _
    rw [fy36.1 33 (by omega), fy13.1 33 (by omega), fy1.1 33 (by omega)]
    exact hC
end
section
/-! SUMS AND TESTS: lists of codes, signs that wait -/
theorem xlist.cong {M M' : Mem} {qf : Nat} {l : List Int32} (h : xlist M qf l) (h1 : gI M' (128 * qf + 1) = gI M (128 * qf + 1)) (h2 : gA M' (qf + 1) = gA M (qf + 1)) : xlist M' qf l := by
  unfold xlist at h ⊢
  rw [h1, h2]
  exact h
theorem xlist.add {n0 qf : Nat} {x : Int32} {l : List Int32} {M : Mem} (h : xlist M qf l) (hl : l.length < 1600) : fX0_add n0 qf x M = some (sI (sA M (qf + 1) l.length x) (128 * qf + 1) (nI (l.length + 1))) ∧ xlist (sI (sA M (qf + 1) l.length x) (128 * qf + 1) (nI (l.length + 1))) qf (l ++ [x]) := by
  obtain ⟨h1, h2⟩ := h
  constructor
  · unfold fX0_add
    refine eq_f (by rw [h1]; exact nI_ge (b := 1600) hl (by decide)) (eq_f (by rw [h1]; exact nI_in hl (by decide)) (eq_n ?_))
    simp only [gI_sA, h1, nI_clamp (show l.length < 2 ^ 31 by omega), nI_1]
  · refine ⟨by rw [gI_at, List.length_append]; rfl, fun i hi => ?_⟩
    show gA (sA M (qf + 1) l.length x) (qf + 1) i = _
    rw [gA_sA, if_pos rfl]
    by_cases e : i = l.length
    · subst e
      rw [if_pos rfl, List.getElem_append_right (Nat.le_refl _)]
      simp
    · have hi2 : i < l.length := by rw [List.length_append] at hi; simp at hi; omega
      rw [if_neg e, List.getElem_append_left hi2]
      exact h2 i hi2
theorem ylist.cong {M M' : Mem} {b c0 : Nat} {l : List (Int32 × Int32)} (h : ylist M b c0 l) (h1 : ∀ i, i < c0 + l.length → gA M' 16 (1600 * b + i) = gA M 16 (1600 * b + i) ∧ gA M' 17 (1600 * b + i) = gA M 17 (1600 * b + i)) : ylist M' b c0 l := fun i hi => by
  rw [(h1 (c0 + i) (by omega)).1, (h1 (c0 + i) (by omega)).2]
  exact h i hi
theorem n1600 (b i : Nat) : (1600 : Int32) * nI b + nI i = nI (1600 * b + i) := by rw [← nI_add, ← nI_mul]; rfl
/-- the memory behind a code that is added -/
def yAdd (M : Mem) (b c : Nat) (x y : Int32) : Mem := sI (sA (sA M 16 (1600 * b + c) x) 17 (1600 * b + c) y) 33 (nI (c + 1))
theorem ylist.add {n0 b c0 : Nat} {x y : Int32} {l : List (Int32 × Int32)} {M : Mem} (h : ylist M b c0 l) (hb : b ≤ 1) (h34 : gI M 34 = nI b) (h33 : gI M 33 = nI (c0 + l.length)) (hl : c0 + l.length < 1600) : fX12_add n0 x y M = some (yAdd M b (c0 + l.length) x y) ∧ ylist (yAdd M b (c0 + l.length) x y) b c0 (l ++ [(x, y)]) ∧ gI (yAdd M b (c0 + l.length) x y) 33 = nI (c0 + (l ++ [(x, y)]).length) := by
  refine ⟨?_, fun i hi => ?_, ?_⟩
  · have e : (1600 : Int32) * gI M 34 + gI M 33 = nI (1600 * b + (c0 + l.length)) := by rw [h34, h33, n1600]
    have o : ¬ oob ((1600 : Int32) * gI M 34 + gI M 33) 3200 := by rw [e]; exact nI_in (by omega) (by decide)
    unfold fX12_add yAdd
    refine eq_f o (eq_n (eq_f o (eq_n ?_)))
    have k : (1600 * gI M 34 + gI M 33).toNatClampNeg = 1600 * b + (c0 + l.length) := by rw [e, nI_clamp (by omega)]
    simp only [gI_sA, k]
    rw [h33, nI_1]
  · show gA (sA (sA M 16 (1600 * b + (c0 + l.length)) x) 17 (1600 * b + (c0 + l.length)) y) 16 _ = _ ∧ gA (sA (sA M 16 (1600 * b + (c0 + l.length)) x) 17 (1600 * b + (c0 + l.length)) y) 17 _ = _
    rw [gA_sA_ne (show (16 : Nat) ≠ 17 by decide), gA_sA, if_pos rfl, gA_sA, if_pos rfl, gA_sA_ne (show (17 : Nat) ≠ 16 by decide)]
    by_cases e : i = l.length
    · subst e
      rw [if_pos rfl, if_pos rfl, List.getElem_append_right (Nat.le_refl _)]
      simp
    · have hi2 : i < l.length := by rw [List.length_append] at hi; simp at hi; omega
      rw [if_neg (by omega), if_neg (by omega), List.getElem_append_left hi2]
      exact h i hi2
  · unfold yAdd
    rw [gI_at, List.length_append]
    rfl
/-- signs that wait above m, the uppermost first -/
def OpsR (M : Mem) (m : Nat) : List Int32 → Prop
  | [] => True
  | op :: R => gA M 26 (m + R.length) = op ∧ OpsR M m R
theorem OpsR.cong {M M' : Mem} {m : Nat} : ∀ {R : List Int32}, OpsR M m R → (∀ i, m ≤ i → i < m + R.length → gA M' 26 i = gA M 26 i) → OpsR M' m R
  | [], _, _ => trivial
  | op :: R, h, hc => ⟨by rw [hc _ (by omega) (by simp)]; exact h.1, OpsR.cong h.2 (fun i h1 h2 => hc i h1 (by simp; omega))⟩
theorem OpsR.push {M : Mem} {m : Nat} {R : List Int32} {op : Int32} (h : OpsR M m R) : OpsR (sA M 26 (m + R.length) op) m (op :: R) := ⟨by rw [gA_sA, if_pos rfl, if_pos rfl], h.cong (fun i h1 h2 => by rw [gA_sA, if_pos rfl, if_neg (by omega)])⟩
theorem OpsR.app {M : Mem} {m : Nat} {R0 : List Int32} (h0 : OpsR M m R0) : ∀ {R : List Int32}, OpsR M (m + R0.length) R → OpsR M m (R ++ R0)
  | [], _ => h0
  | op :: R, h => ⟨by
    show gA M 26 (m + (R ++ R0).length) = op
    rw [List.length_append, show m + (R.length + R0.length) = m + R0.length + R.length by omega]
    exact h.1, OpsR.app h0 h.2⟩
def rkI (x : Int32) : Nat := if x = 42 then 1 else if x = 41 then 2 else if x = 43 then 3 else if x = 38 then 4 else if x = 39 then 4 else if x = 40 then 4 else if x = 31 then 5 else if x = 32 then 5 else 6
theorem rkI_le {x : Int32} : rkI x ≤ 6 := by
  unfold rkI
  repeat' split
  all_goals omega
theorem yrank {n0 : Nat} {x : Int32} {M : Mem} : fX12_rank n0 x M = some (nI (rkI x), M) := by
  unfold fX12_rank rkI
  repeat' split
  all_goals rfl
def nots : List Int32 → Nat
  | [] => 0
  | op :: R => (if op = 43 then 1 else 0) + nots R
theorem nots_app {R0 : List Int32} : ∀ {R : List Int32}, nots (R ++ R0) = nots R + nots R0
  | [] => by simp [nots]
  | op :: R => by
    show _ + nots (R ++ R0) = _ + nots R + nots R0
    rw [nots_app (R := R)]
    omega
theorem nots_0 {R : List Int32} (h : ∀ op ∈ R, 4 ≤ rkI op) : nots R = 0 := by
  induction R with
  | nil => rfl
  | cons op R ih =>
    have h1 := h op List.mem_cons_self
    have : ¬ op = 43 := fun e => by
      rw [e] at h1
      exact absurd h1 (by decide)
    show (if op = 43 then 1 else 0) + nots R = 0
    rw [if_neg this, ih (fun o ho => h o (List.mem_cons_of_mem _ ho))]
def fl (R : List Int32) : List (Int32 × Int32) := R.map (fun op => (op, 0))
/-- what joins() changes -/
def FrJ (b c : Nat) (M M' : Mem) : Prop := (∀ k, k ≠ 33 → k ≠ 42 → k ≠ 44 → gI M' k = gI M k) ∧ (∀ a i, ¬ ((a = 16 ∨ a = 17) ∧ 1600 * b + c ≤ i ∧ i < 1600 * b + 1600) → gA M' a i = gA M a i) ∧ gL M' = gL M ∧ gB M' = gB M
theorem yjoins {n0 b c0 dp m bs op0 least : Nat} (hn : 1601 ≤ n0) (hb : b ≤ 1) (hdp : 1 ≤ dp ∧ dp ≤ 20) (hbs : bs ≤ m) : ∀ (R : List Int32) (w : Nat) (M : Mem) (l : List (Int32 × Int32)), R.length < w → gI M 41 = nI dp → gA M 25 (dp - 1) = nI bs → gI M 44 = nI (m + R.length) → OpsR M m R → (∀ op ∈ R, least ≤ rkI op) → (m = bs ∨ rkI (gA M 26 (m - 1)) < least) → m + R.length ≤ 500 → gI M 34 = nI b → gI M 33 = nI (c0 + l.length) → ylist M b c0 l → c0 + l.length + R.length ≤ 1600 → gI M 42 = nI (op0 + nots R) → op0 + nots R < 2 ^ 31 → least ≤ 6 →
    ∃ M', loopN (bX12_joins_0 n0) (fun _ _ => none) w (nI least) M = some M' ∧ gI M' 44 = nI m ∧ ylist M' b c0 (l ++ fl R) ∧ gI M' 33 = nI (c0 + (l ++ fl R).length) ∧ gI M' 42 = nI op0 ∧ FrJ b (c0 + l.length) M M' := by
  intro R
  induction R with
  | nil =>
    intro w M l hw h41 h25 h44 hO hR hm h500 h34 h33 hy hc h42 hop hle
    obtain ⟨w, rfl⟩ : ∃ v, w = v + 1 := ⟨w - 1, by omega⟩
    refine ⟨M, ?_, h44, by rw [fl]; simpa using hy, by rw [fl]; simpa using h33, h42, ⟨fun _ _ _ _ => rfl, fun _ _ _ => rfl, rfl, rfl⟩⟩
    have h441 : gI M 44 = nI m := h44
    have e41 : gI M 41 - 1 = nI (dp - 1) := by
      rw [h41]
      exact nI_subN (b := 1) hdp.1
    have c41 : (gI M 41 - 1).toNatClampNeg = dp - 1 := by rw [e41, nI_clamp (by omega)]
    rw [lpS, bX12_joins_0]
    refine eq_f (by rw [e41]; exact nI_in (by omega) (by decide)) ?_
    rw [c41, h25, h441]
    by_cases g : m = bs
    · exact eq_t (by rw [g]; exact nI_le (Nat.le_refl _) (by simp at h500; omega)) rfl
    · have hlt : bs < m := by omega
      have e44 : nI m - 1 = nI (m - 1) := nI_subN (b := 1) (by omega)
      have hr : rkI (gA M 26 (m - 1)) < least := by
        rcases hm with q | q
        · exact absurd q g
        · exact q
      simp at h500
      refine eq_f (nI_ge hlt (by omega)) (eq_f (by rw [e44]; exact nI_in (by omega) (by decide)) (eq_b yrank (eq_t ?_ rfl)))
      rw [e44, nI_clamp (by omega)]
      exact nI_lt hr (by omega)
  | cons op R ih =>
    intro w M l hw h41 h25 h44 hO hR hm h500 h34 h33 hy hc h42 hop hle
    obtain ⟨w, rfl⟩ : ∃ v, w = v + 1 := ⟨w - 1, by omega⟩
    simp only [List.length_cons] at h44 h500 hc hw
    have e41 : gI M 41 - 1 = nI (dp - 1) := by
      rw [h41]
      exact nI_subN (b := 1) hdp.1
    have c41 : (gI M 41 - 1).toNatClampNeg = dp - 1 := by rw [e41, nI_clamp (by omega)]
    have e44 : gI M 44 - 1 = nI (m + R.length) := by
      rw [h44]
      exact nI_subN (b := 1) (by omega)
    have c44 : (gI M 44 - 1).toNatClampNeg = m + R.length := by rw [e44, nI_clamp (by omega)]
    have hop1 := hO.1
    have hrk := hR op List.mem_cons_self
    -- one sign
    have a44 : gI (sI M 44 (gI M 44 - 1)) 44 = nI (m + R.length) := by rw [gI_at, e44]
    have k44 : (gI (sI M 44 (gI M 44 - 1)) 44).toNatClampNeg = m + R.length := by rw [a44, nI_clamp (by omega)]
    have hy1 : ylist (sI M 44 (gI M 44 - 1)) b c0 l := hy
    obtain ⟨ea, ya, y33⟩ := hy1.add (n0 := n0) (x := op) (y := 0) hb (by rw [gI_ne (by decide)]; exact h34) (by rw [gI_ne (by decide)]; exact h33) (by omega)
    have hbig : nots (op :: R) = (if op = 43 then 1 else 0) + nots R := rfl
    rw [hbig] at h42 hop
    -- the memory behind it
    have rest : ∀ M2 : Mem, gI M2 42 = nI (op0 + nots R) → (∀ k, k ≠ 42 → gI M2 k = gI (yAdd (sI M 44 (gI M 44 - 1)) b (c0 + l.length) op 0) k) → gA M2 = gA (yAdd (sI M 44 (gI M 44 - 1)) b (c0 + l.length) op 0) → gL M2 = gL M → gB M2 = gB M → ∃ M', loopN (bX12_joins_0 n0) (fun _ _ => none) w (nI least) M2 = some M' ∧ gI M' 44 = nI m ∧ ylist M' b c0 (l ++ fl (op :: R)) ∧ gI M' 33 = nI (c0 + (l ++ fl (op :: R)).length) ∧ gI M' 42 = nI op0 ∧ FrJ b (c0 + l.length) M M' := by
      intro M2 g42 gk gA2 gl gb
      have ar : ∀ a i, a ≠ 16 → a ≠ 17 → gA M2 a i = gA M a i := fun a i h16 h17 => by
        rw [gA2]
        unfold yAdd
        show gA (sA (sA (sI M 44 (gI M 44 - 1)) 16 _ op) 17 _ 0) a i = _
        rw [gA_sA_ne h17, gA_sA_ne h16]
        rfl
      have ik : ∀ k, k ≠ 42 → k ≠ 44 → k ≠ 33 → gI M2 k = gI M k := fun k h1 h2 h3 => by
        rw [gk k h1]
        unfold yAdd
        rw [gI_ne h3]
        show gI (sI M 44 (gI M 44 - 1)) k = _
        rw [gI_ne h2]
      obtain ⟨M', q1, q2, q3, q4, q5, q6⟩ := ih w M2 (l ++ [(op, 0)]) (by omega) (by rw [ik 41 (by decide) (by decide) (by decide)]; exact h41) (by rw [ar _ _ (by decide) (by decide)]; exact h25) (by
          rw [gk 44 (by decide)]
          unfold yAdd
          rw [gI_ne (by decide)]
          exact a44) (hO.2.cong (fun i _ _ => ar _ _ (by decide) (by decide))) (fun o ho => hR o (List.mem_cons_of_mem _ ho)) (by rw [ar _ _ (by decide) (by decide)]; exact hm) (by omega) (by rw [ik 34 (by decide) (by decide) (by decide)]; exact h34) (by rw [gk 33 (by decide)]; exact y33) (by
          unfold ylist
          rw [gA2]
          exact ya) (by simp; omega) g42 (by omega) hle
      refine ⟨M', q1, q2, ?_, ?_, q5, ?_, ?_, q6.2.2.1.trans gl, q6.2.2.2.trans gb⟩
      · have e : l ++ fl (op :: R) = l ++ [(op, 0)] ++ fl R := by simp [fl]
        rw [e]; exact q3
      · have e : l ++ fl (op :: R) = l ++ [(op, 0)] ++ fl R := by simp [fl]
        rw [e]; exact q4
      · intro k h1 h2 h3
        rw [q6.1 k h1 h2 h3]
        exact ik k h2 h3 h1
      · intro a i hh
        rw [q6.2.1 a i (by simp only [List.length_append, List.length_cons, List.length_nil]; omega), gA2]
        unfold yAdd
        show gA (sA (sA (sI M 44 (gI M 44 - 1)) 16 (1600 * b + (c0 + l.length)) op) 17 (1600 * b + (c0 + l.length)) 0) a i = _
        rw [gA_sA]
        by_cases e17 : a = 17
        · rw [if_pos e17, if_neg (by omega), gA_sA_ne (by decide), e17]
          rfl
        · rw [if_neg e17, gA_sA]
          by_cases e16 : a = 16
          · rw [if_pos e16, if_neg (by omega), e16]
            rfl
          · rw [if_neg e16]
            rfl
    have ops2 : gA (yAdd (sI M 44 (gI M 44 - 1)) b (c0 + l.length) op 0) 26 (gI (yAdd (sI M 44 (gI M 44 - 1)) b (c0 + l.length) op 0) 44).toNatClampNeg = op := by
      unfold yAdd
      rw [gI_ne (by decide)]
      show gA (sA (sA (sI M 44 (gI M 44 - 1)) 16 _ op) 17 _ 0) 26 (gI (sI M 44 (gI M 44 - 1)) 44).toNatClampNeg = op
      rw [k44, gA_sA_ne (by decide), gA_sA_ne (by decide)]
      exact hop1
    have z44 : gI (yAdd (sI M 44 (gI M 44 - 1)) b (c0 + l.length) op 0) 44 = nI (m + R.length) := by
      unfold yAdd
      rw [gI_ne (by decide)]
      exact a44
    have ea' : fX12_add n0 (gA (sI M 44 (gI M 44 - 1)) 26 (gI (sI M 44 (gI M 44 - 1)) 44).toNatClampNeg) 0 (sI M 44 (gI M 44 - 1)) = some (yAdd (sI M 44 (gI M 44 - 1)) b (c0 + l.length) op 0) := by
      rw [k44]
      show fX12_add n0 (gA M 26 (m + R.length)) 0 (sI M 44 (gI M 44 - 1)) = _
      rw [hop1]
      exact ea
    have hmem : ∀ r, (if gA (yAdd (sI M 44 (gI M 44 - 1)) b (c0 + l.length) op 0) 26 (gI (yAdd (sI M 44 (gI M 44 - 1)) b (c0 + l.length) op 0) 44).toNatClampNeg = (43 : Int32) then loopN (bX12_joins_0 n0) (fun _ _ => none) w (nI least) (sI (yAdd (sI M 44 (gI M 44 - 1)) b (c0 + l.length) op 0) 42 ((gI (yAdd (sI M 44 (gI M 44 - 1)) b (c0 + l.length) op 0) 42) - (1 : Int32))) else loopN (bX12_joins_0 n0) (fun _ _ => none) w (nI least) (yAdd (sI M 44 (gI M 44 - 1)) b (c0 + l.length) op 0)) = r → loopN (bX12_joins_0 n0) (fun _ _ => none) (w + 1) (nI least) M = r := by
      intro r hr
      rw [lpS, bX12_joins_0]
      refine eq_f (by rw [e41]; exact nI_in (by omega) (by decide)) (eq_f ?_ (eq_f (by rw [e44]; exact nI_in (by omega) (by decide)) (eq_b yrank (eq_f ?_ (eq_n (eq_f (by rw [a44]; exact nI_in (by omega) (by decide)) (eq_b ea' (eq_f (by rw [z44]; exact nI_in (by omega) (by decide)) hr))))))))
      · rw [c41, h25, h44]
        exact nI_ge (by omega) (by omega)
      · rw [c44, hop1]
        exact nI_nlt hrk (by have := rkI_le (x := op); omega)
    have y42 : gI (yAdd (sI M 44 (gI M 44 - 1)) b (c0 + l.length) op 0) 42 = gI M 42 := by
      unfold yAdd
      rw [gI_ne (by decide)]
      show gI (sI M 44 (gI M 44 - 1)) 42 = _
      rw [gI_ne (by decide)]
    by_cases e43 : op = 43
    · rw [if_pos e43] at h42 hop
      obtain ⟨M', q⟩ := rest (sI (yAdd (sI M 44 (gI M 44 - 1)) b (c0 + l.length) op 0) 42 ((gI (yAdd (sI M 44 (gI M 44 - 1)) b (c0 + l.length) op 0) 42) - (1 : Int32))) (by
        rw [gI_at, y42, h42, show (1 : Int32) = nI 1 from rfl, nI_subN (by omega)]
        congr 1
        omega) (fun k hk => gI_ne hk) rfl rfl rfl
      refine ⟨M', hmem _ ?_, q.2⟩
      exact eq_t (by rw [ops2]; exact e43) q.1
    · rw [if_neg e43] at h42 hop
      obtain ⟨M', q⟩ := rest (yAdd (sI M 44 (gI M 44 - 1)) b (c0 + l.length) op 0) (by rw [y42, h42]; congr 1; omega) (fun k _ => rfl) rfl rfl rfl
      refine ⟨M', hmem _ ?_, q.2⟩
      exact eq_f (by rw [ops2]; exact e43) q.1
end
