section
/-! THE PURE PART, BASE: functions over memories that come to an end; reads behind writes; frames; numbers -/
def okP {ρ : Type} (o : Option ρ) (Q : ρ → Prop) : Prop := ∃ r, o = some r ∧ Q r
theorem okP_some {ρ : Type} {r : ρ} {Q : ρ → Prop} (h : Q r) : okP (some r) Q := ⟨r, rfl, h⟩
theorem okP_is {ρ : Type} {o : Option ρ} {r : ρ} {Q : ρ → Prop} (e : o = some r) (h : Q r) : okP o Q := ⟨r, e, h⟩
theorem okP_ite {ρ : Type} {c : Prop} [Decidable c] {a b : Option ρ} {Q : ρ → Prop} (h1 : c → okP a Q) (h2 : ¬ c → okP b Q) : okP (if c then a else b) Q := by
  by_cases h : c
  · rw [if_pos h]; exact h1 h
  · rw [if_neg h]; exact h2 h
theorem okP_t {ρ : Type} {c : Prop} [Decidable c] {a b : Option ρ} {Q : ρ → Prop} (h : c) (h1 : okP a Q) : okP (if c then a else b) Q := by rw [if_pos h]; exact h1
theorem okP_f {ρ : Type} {c : Prop} [Decidable c] {a b : Option ρ} {Q : ρ → Prop} (h : ¬ c) (h1 : okP b Q) : okP (if c then a else b) Q := by rw [if_neg h]; exact h1
theorem okP_bind {α β : Type} {o : Option α} {k : α → Option β} {P : α → Prop} {Q : β → Prop} (h : okP o P) (hk : ∀ z, P z → okP (k z) Q) : okP (o.bind k) Q := by
  obtain ⟨z, rfl, hz⟩ := h
  exact hk z hz
theorem okP_be {α β : Type} {o : Option α} {k : α → Option β} {z : α} {Q : β → Prop} (e : o = some z) (h : okP (k z) Q) : okP (o.bind k) Q := by rw [e]; exact h
theorem okP_bnd {α ρ : Type} {v : α} {k : α → Option ρ} {Q : ρ → Prop} (h : okP (k v) Q) : okP (bnd v k) Q := h
theorem okP_mono {ρ : Type} {o : Option ρ} {P Q : ρ → Prop} (h : okP o P) (hq : ∀ r, P r → Q r) : okP o Q := by
  obtain ⟨r, e, h⟩ := h
  exact ⟨r, e, hq r h⟩
/-- an answer 0 or 1 -/
def bI (p : Prop) [Decidable p] : Int32 := if p then 1 else 0
theorem i10 : ¬ (1 : Int32) = 0 := by decide
theorem bI_t {p : Prop} [Decidable p] (h : p) : bI p = 1 := if_pos h
theorem bI_f {p : Prop} [Decidable p] (h : ¬ p) : bI p = 0 := if_neg h
theorem bI_0 {p : Prop} [Decidable p] : bI p = 0 ↔ ¬ p := by
  unfold bI
  by_cases h : p
  · rw [if_pos h]; exact ⟨fun e => absurd e i10, fun e => absurd h e⟩
  · rw [if_neg h]; exact ⟨fun _ => h, fun _ => rfl⟩
theorem bI_01 {p : Prop} [Decidable p] : bI p = 0 ∨ bI p = 1 := by
  unfold bI
  by_cases h : p
  · rw [if_pos h]; exact Or.inr rfl
  · rw [if_neg h]; exact Or.inl rfl
-- reads behind writes
theorem gI_sA {M : Mem} {a i k : Nat} {v : Int32} : gI (sA M a i v) k = gI M k := rfl
theorem gI_sR {M : Mem} {j k v : Nat} : gI (sR M j v) k = gI M k := rfl
theorem gI_sL {M : Mem} {j k : Nat} {v : Int64} : gI (sL M j v) k = gI M k := rfl
theorem gI_sB {M : Mem} {a i k : Nat} {v : Int64} : gI (sB M a i v) k = gI M k := rfl
theorem gI_sF {M : Mem} {a k : Nat} {f : Nat → Int32} : gI (sF M a f) k = gI M k := rfl
theorem gA_sI {M : Mem} {k a : Nat} {v : Int32} : gA (sI M k v) a = gA M a := rfl
theorem gA_sR {M : Mem} {k a v : Nat} : gA (sR M k v) a = gA M a := rfl
theorem gA_sL {M : Mem} {k a : Nat} {v : Int64} : gA (sL M k v) a = gA M a := rfl
theorem gA_sB {M : Mem} {a i b : Nat} {v : Int64} : gA (sB M b i v) a = gA M a := rfl
theorem gR_sI {M : Mem} {k j : Nat} {v : Int32} : gR (sI M k v) j = gR M j := rfl
theorem gR_sA {M : Mem} {a i j : Nat} {v : Int32} : gR (sA M a i v) j = gR M j := rfl
theorem gR_sL {M : Mem} {k j : Nat} {v : Int64} : gR (sL M k v) j = gR M j := rfl
theorem gR_sB {M : Mem} {a i j : Nat} {v : Int64} : gR (sB M a i v) j = gR M j := rfl
theorem gR_sF {M : Mem} {a j : Nat} {f : Nat → Int32} : gR (sF M a f) j = gR M j := rfl
theorem gL_sI {M : Mem} {k j : Nat} {v : Int32} : gL (sI M k v) j = gL M j := rfl
theorem gL_sA {M : Mem} {a i j : Nat} {v : Int32} : gL (sA M a i v) j = gL M j := rfl
theorem gL_sB {M : Mem} {a i j : Nat} {v : Int64} : gL (sB M a i v) j = gL M j := rfl
theorem gB_sI {M : Mem} {k a : Nat} {v : Int32} : gB (sI M k v) a = gB M a := rfl
theorem gB_sA {M : Mem} {b i a : Nat} {v : Int32} : gB (sA M b i v) a = gB M a := rfl
theorem gB_sL {M : Mem} {k a : Nat} {v : Int64} : gB (sL M k v) a = gB M a := rfl
theorem gI_at {M : Mem} {k : Nat} {v : Int32} : gI (sI M k v) k = v := by rw [gI_sI, if_pos rfl]
theorem gI_ne {M : Mem} {k j : Nat} {v : Int32} (h : j ≠ k) : gI (sI M k v) j = gI M j := by rw [gI_sI, if_neg h]
theorem sI_same {M : Mem} {k : Nat} {v : Int32} (h : gI M k = v) : sI M k v = M := by
  subst h
  obtain ⟨a, b⟩ := M
  show (upd a k (a k), b) = (a, b)
  congr 1
  funext j
  unfold upd
  by_cases e : j = k
  · rw [if_pos e, e]
  · rw [if_neg e]
theorem sI_sI {M : Mem} {k : Nat} {v u : Int32} : sI (sI M k u) k v = sI M k v := by
  obtain ⟨a, b⟩ := M
  show (upd (upd a k u) k v, b) = (upd a k v, b)
  congr 1
  funext j
  unfold upd
  by_cases e : j = k
  · rw [if_pos e, if_pos e]
  · rw [if_neg e, if_neg e, if_neg e]
/-- what may be other than before: ints by number, arrays by place, longs by number, arrays of longs by place -/
def Frm (I A L B : Nat → Prop) (M M' : Mem) : Prop := (∀ k, ¬ I k → gI M' k = gI M k) ∧ (∀ a, ¬ A a → gA M' a = gA M a) ∧ (∀ k, gR M' k = gR M k) ∧ (∀ k, ¬ L k → gL M' k = gL M k) ∧ ∀ a, ¬ B a → gB M' a = gB M a
def noN : Nat → Prop := fun _ => False
theorem Frm.r {I A L B : Nat → Prop} {M : Mem} : Frm I A L B M M := ⟨fun _ _ => rfl, fun _ _ => rfl, fun _ => rfl, fun _ _ => rfl, fun _ _ => rfl⟩
theorem Frm.tr {I A L B : Nat → Prop} {M M' M2 : Mem} (h : Frm I A L B M M') (h2 : Frm I A L B M' M2) : Frm I A L B M M2 :=
  ⟨fun k hk => (h2.1 k hk).trans (h.1 k hk), fun k hk => (h2.2.1 k hk).trans (h.2.1 k hk), fun k => (h2.2.2.1 k).trans (h.2.2.1 k), fun k hk => (h2.2.2.2.1 k hk).trans (h.2.2.2.1 k hk), fun k hk => (h2.2.2.2.2 k hk).trans (h.2.2.2.2 k hk)⟩
theorem Frm.wk {I A L B I' A' L' B' : Nat → Prop} {M M' : Mem} (h : Frm I A L B M M') (h1 : ∀ k, I k → I' k) (h2 : ∀ k, A k → A' k) (h3 : ∀ k, L k → L' k) (h4 : ∀ k, B k → B' k) : Frm I' A' L' B' M M' :=
  ⟨fun k hk => h.1 k (fun q => hk (h1 k q)), fun k hk => h.2.1 k (fun q => hk (h2 k q)), h.2.2.1, fun k hk => h.2.2.2.1 k (fun q => hk (h3 k q)), fun k hk => h.2.2.2.2 k (fun q => hk (h4 k q))⟩
theorem Frm.sI {I A L B : Nat → Prop} {M M' : Mem} {k : Nat} {v : Int32} (h : Frm I A L B M M') (hk : I k) : Frm I A L B M (sI M' k v) :=
  ⟨fun j hj => by rw [gI_sI, if_neg (show ¬ j = k from fun e => hj (by rw [e]; exact hk))]; exact h.1 j hj, h.2.1, h.2.2.1, h.2.2.2.1, h.2.2.2.2⟩
theorem Frm.sA {I A L B : Nat → Prop} {M M' : Mem} {a i : Nat} {v : Int32} (h : Frm I A L B M M') (hk : A a) : Frm I A L B M (sA M' a i v) :=
  ⟨h.1, fun j hj => by rw [gA_sA_ne (show j ≠ a from fun e => hj (by rw [e]; exact hk))]; exact h.2.1 j hj, h.2.2.1, h.2.2.2.1, h.2.2.2.2⟩
theorem Frm.sL {I A L B : Nat → Prop} {M M' : Mem} {k : Nat} {v : Int64} (h : Frm I A L B M M') (hk : L k) : Frm I A L B M (sL M' k v) :=
  ⟨h.1, h.2.1, h.2.2.1, fun j hj => by rw [gL_sL, if_neg (show ¬ j = k from fun e => hj (by rw [e]; exact hk))]; exact h.2.2.2.1 j hj, h.2.2.2.2⟩
theorem Frm.sB {I A L B : Nat → Prop} {M M' : Mem} {a i : Nat} {v : Int64} (h : Frm I A L B M M') (hk : B a) : Frm I A L B M (sB M' a i v) :=
  ⟨h.1, h.2.1, h.2.2.1, h.2.2.2.1, fun j hj => by rw [gB_sB_ne (show j ≠ a from fun e => hj (by rw [e]; exact hk))]; exact h.2.2.2.2 j hj⟩
-- numbers
theorem i_lt (x y : Int32) : x < y ↔ x.toInt < y.toInt := Int32.lt_iff_toInt_lt
theorem i_le (x y : Int32) : x ≤ y ↔ x.toInt ≤ y.toInt := Int32.le_iff_toInt_le
theorem i_eq (x y : Int32) : x = y ↔ x.toInt = y.toInt := Int32.toInt_inj.symm
theorem okP_in {ρ : Type} {o : Option ρ} {Q : ρ → Prop} {k n : Nat} (h : k < n) (hn : n < 2 ^ 31) (hk : okP o Q) : okP (if oob (nI k) n then none else o) Q := okP_f (nI_in h hn) hk
theorem lpS {α : Type} (F : α → α) (z : α) (n : Nat) : loopN F z (n + 1) = F (loopN F z n) := rfl
end
section
/-! THE NEXT WORD, NUMBER OR SIGN, as the class reads it -/
abbrev blk (x : Int32) : Prop := x = 32 ∨ x = 10
abbrev isLt (x : Int32) : Prop := 97 ≤ x ∧ x ≤ 122
abbrev isDg (x : Int32) : Prop := 48 ≤ x ∧ x ≤ 57
def SkB (t : Nat → Int32) (L p s : Nat) : Prop := p ≤ s ∧ s ≤ L ∧ (∀ i, p ≤ i → i < s → blk (t i)) ∧ (s < L → ¬ blk (t s))
def RnB (P : Int32 → Prop) (t : Nat → Int32) (L k e : Nat) : Prop := k ≤ e ∧ e ≤ L ∧ (∀ i, k ≤ i → i < e → P (t i)) ∧ (e < L → ¬ P (t e))
theorem RnB.uniq {P : Int32 → Prop} {t : Nat → Int32} {L p s s' : Nat} (h : RnB P t L p s) (h' : RnB P t L p s') : s = s' := by
  rcases Nat.lt_trichotomy s s' with g | g | g
  · exact absurd (h'.2.2.1 s h.1 g) (h.2.2.2 (Nat.lt_of_lt_of_le g h'.2.1))
  · exact g
  · exact absurd (h.2.2.1 s' h'.1 g) (h'.2.2.2 (Nat.lt_of_lt_of_le g h.2.1))
theorem SkB.uniq {t : Nat → Int32} {L p s s' : Nat} (h : SkB t L p s) (h' : SkB t L p s') : s = s' := RnB.uniq (P := blk) h h'
def vLt (t : Nat → Int32) (i : Nat) : Nat := (t i).toNatClampNeg - 96
def vDg (t : Nat → Int32) (i : Nat) : Nat := (t i).toNatClampNeg - 48
def e27 (f : Nat → Nat) : Nat → Nat
  | 0 => 0
  | n + 1 => 27 * e27 f n + f n
def e10 (f : Nat → Nat) : Nat → Nat
  | 0 => 0
  | n + 1 => 10 * e10 f n + f n
theorem in_nI {a b : Nat} {x : Int32} (hb : b < 2 ^ 31) (h : nI a ≤ x ∧ x ≤ nI b) (hab : a ≤ b) : ∃ j, a ≤ j ∧ j ≤ b ∧ x = nI j := by
  have h0 : ¬ x < 0 := by
    have h1 := h.1
    rw [i_le, nI_toInt (by omega)] at h1
    rw [i_lt]
    have : (0 : Int32).toInt = 0 := by decide
    omega
  obtain ⟨j, hj, rfl⟩ := nI_of2 (M := nI b) (n := b) (nI_toInt hb) h0 h.2
  exact ⟨j, (nI_leI (by omega) (by omega)).mp h.1, hj, rfl⟩
theorem isLt_v {t : Nat → Int32} {i : Nat} (h : isLt (t i)) : 1 ≤ vLt t i ∧ vLt t i ≤ 26 ∧ t i = nI (vLt t i + 96) := by
  obtain ⟨j, h1, h2, e⟩ := in_nI (a := 97) (b := 122) (by decide) h (by decide)
  unfold vLt
  rw [e, nI_clamp (by omega)]
  exact ⟨by omega, by omega, by congr 1; omega⟩
theorem isDg_v {t : Nat → Int32} {i : Nat} (h : isDg (t i)) : vDg t i ≤ 9 ∧ t i = nI (vDg t i + 48) := by
  obtain ⟨j, h1, h2, e⟩ := in_nI (a := 48) (b := 57) (by decide) h (by decide)
  unfold vDg
  rw [e, nI_clamp (by omega)]
  exact ⟨by omega, by congr 1; omega⟩
theorem lt_dg {x : Int32} (h : isLt x) : ¬ isDg x := fun g => by
  have := h.1
  have := g.2
  rw [i_le] at *
  have a : (97 : Int32).toInt = 97 := by decide
  have b : (57 : Int32).toInt = 57 := by decide
  omega
theorem lt_blk {x : Int32} (h : isLt x) : ¬ blk x := fun g => by
  rcases g with rfl | rfl <;> exact absurd h (by decide)
theorem dg_blk {x : Int32} (h : isDg x) : ¬ blk x := fun g => by
  rcases g with rfl | rfl <;> exact absurd h (by decide)
theorem rng_bI {a b x : Int32} {M : Mem} : (if x < a then some ((0 : Int32), M) else if b < x then some ((0 : Int32), M) else some ((1 : Int32), M)) = some (bI (a ≤ x ∧ x ≤ b), M) := by
  by_cases h1 : x < a
  · rw [if_pos h1, bI_f (fun h => absurd h.1 (Int32.not_le.mpr h1))]
  · by_cases h2 : b < x
    · rw [if_neg h1, if_pos h2, bI_f (fun h => absurd h.2 (Int32.not_le.mpr h2))]
    · rw [if_neg h1, if_neg h2, bI_t ⟨Int32.not_lt.mp h1, Int32.not_lt.mp h2⟩]
theorem xlet {n0 : Nat} {x : Int32} {M : Mem} : fX8_isLetter n0 x M = some (bI (isLt x), M) := by unfold fX8_isLetter; exact rng_bI
theorem xdig {n0 : Nat} {x : Int32} {M : Mem} : fX8_isDigit n0 x M = some (bI (isDg x), M) := by unfold fX8_isDigit; exact rng_bI
theorem xat {n0 L i : Nat} {M : Mem} (hL : gI M 641 = nI L) (h16 : L ≤ 1600) (hi : i < L) : fX7_at n0 (nI i) M = some (gA M 6 i, M) := by
  unfold fX7_at
  rw [if_neg (nI_pos (by omega)), hL, if_neg (nI_ge hi (by omega)), if_neg (nI_in (by omega) (by decide)), nI_clamp (by omega)]
theorem xat_end {n0 L i : Nat} {M : Mem} (hL : gI M 641 = nI L) (hi : L ≤ i) (h : i < 2 ^ 31) : fX7_at n0 (nI i) M = some (-1, M) := by
  unfold fX7_at
  rw [if_neg (nI_pos h), hL, if_pos (nI_le hi h)]
theorem xskip {n0 L : Nat} (h16 : L ≤ 1600) : ∀ (w p : Nat) (M : Mem), gI M 641 = nI L → p ≤ L → gI M 390 = nI p → L < w + p → okP (loopN (bX8_skipBlanks_5 n0) (fun _ _ => none) w (nI p) M) (fun M' => ∃ s, SkB (gA M 6) L p s ∧ M' = sI M 390 (nI s)) := by
  intro w
  induction w with
  | zero => intro p M _ _ _ h; omega
  | succ w ih =>
    intro p M hL hp h390 hw
    rw [lpS, bX8_skipBlanks_5]
    by_cases h : L ≤ p
    · refine okP_t (by rw [hL]; exact nI_le h (by omega)) (okP_some ⟨p, ⟨Nat.le_refl p, hp, fun i h1 h2 => by omega, fun h1 => by omega⟩, (sI_same h390).symm⟩)
    · have step : ∀ (hb : blk (gA M 6 p)), okP (fX8_skipBlanks_42 n0 (loopN (bX8_skipBlanks_5 n0) (fun _ _ => none) w) (nI p) M) (fun M' => ∃ s, SkB (gA M 6) L p s ∧ M' = sI M 390 (nI s)) := by
        intro hb
        unfold fX8_skipBlanks_42
        rw [nI_1]
        refine okP_bnd (okP_mono (ih (p + 1) (sI M 390 (nI (p + 1))) (by rw [gI_ne (by decide)]; exact hL) (by omega) gI_at (by omega)) ?_)
        intro M' ⟨s, hs, e⟩
        refine ⟨s, ⟨by have := hs.1; omega, hs.2.1, fun i h1 h2 => ?_, hs.2.2.2⟩, by rw [e, sI_sI]⟩
        by_cases hi : i = p
        · rw [hi]; exact hb
        · exact hs.2.2.1 i (by omega) h2
      refine okP_f (by rw [hL]; exact nI_ge (by omega) (by omega)) (okP_be (xat hL h16 (by omega)) ?_)
      refine okP_ite (fun hb => step (Or.inl hb)) (fun hb => okP_be (xat hL h16 (by omega)) ?_)
      refine okP_ite (fun hc => step (Or.inr hc)) (fun hc => okP_some ⟨p, ⟨Nat.le_refl p, hp, fun i h1 h2 => by omega, fun _ g => ?_⟩, (sI_same h390).symm⟩)
      rcases g with g | g
      · exact hb g
      · exact hc g
theorem ring96 (x y : Int32) : 27 * x + (y + 96) - 97 + 1 = 27 * x + y := by grind
theorem ring48 (x y : Int32) : 10 * x + (y + 48) - 48 = 10 * x + y := by grind
theorem nI_mul (a b : Nat) : nI a * nI b = nI (a * b) := (Int32.ofNat_mul a b).symm
theorem n27 (c v : Nat) : 27 * nI c + nI (v + 96) - 97 + 1 = nI (27 * c + v) := by
  rw [← nI_add v 96]
  show 27 * nI c + (nI v + 96) - 97 + 1 = _
  rw [ring96, ← nI_add, ← nI_mul]
  rfl
theorem n10 (c v : Nat) : 10 * nI c + nI (v + 48) - 48 = nI (10 * c + v) := by
  rw [← nI_add v 48]
  show 10 * nI c + (nI v + 48) - 48 = _
  rw [ring48, ← nI_add, ← nI_mul]
  rfl
theorem nI_subN {a b : Nat} (h : b ≤ a) : nI a - nI b = nI (a - b) := by
  obtain ⟨c, rfl⟩ : ∃ c, a = b + c := ⟨a - b, by omega⟩
  rw [← nI_add, show b + c - b = c by omega]
  grind
theorem xfill {n0 : Nat} {M : Mem} : ∀ (j w n c : Nat), n + j = 6 → j < w → loopN (bX8_fillUp_4 n0) (fun _ _ _ => none) w (nI c) (nI n) M = some (nI (c * 27 ^ j), M) := by
  intro j
  induction j with
  | zero =>
    intro w n c h hw
    obtain ⟨w, rfl⟩ : ∃ v, w = v + 1 := ⟨w - 1, by omega⟩
    rw [lpS, bX8_fillUp_4, if_pos (show (6 : Int32) ≤ nI n from nI_le (a := 6) (by omega) (by omega))]
    simp
  | succ j ih =>
    intro w n c h hw
    obtain ⟨w, rfl⟩ : ∃ v, w = v + 1 := ⟨w - 1, by omega⟩
    rw [lpS, bX8_fillUp_4, if_neg (show ¬ (6 : Int32) ≤ nI n from nI_ge (b := 6) (by omega) (by decide))]
    rw [nI_1, show nI c * 27 = nI (c * 27) from nI_mul c 27]
    show loopN (bX8_fillUp_4 n0) (fun _ _ _ => none) w (nI (c * 27)) (nI (n + 1)) M = _
    rw [ih w (n + 1) (c * 27) (by omega) (by omega), Nat.pow_succ, Nat.mul_assoc, Nat.mul_comm 27]
def ownCs : List Nat := [291417210, 332864532, 173107395, 51382989, 266274540, 294949755, 283368645, 230359626, 115696674, 65554785, 24977727, 123189336, 273666600, 108693171, 230501781, 117687573, 191610176, 78983451, 132328809, 224799543, 21867813, 209249973, 20962395, 191594322, 187539624]
def ownC (i : Nat) : Nat := ownCs.getD i 0
theorem ownC_inj : ∀ i, i < 25 → ∀ j, j < 25 → ownC i = ownC j → i = j := by decide +kernel
theorem ownC_lt : ∀ i, i < 25 → ownC i < 2 ^ 31 := by decide +kernel
def kdOf (v k : Nat) : Prop := (k = 257 ∨ (260 ≤ k ∧ k ≤ 284)) ∧ ∀ i, i < 25 → (k = 260 + i ↔ v = ownC i)
theorem xkind {n0 v : Nat} {M : Mem} (hv : v < 2 ^ 31) (hO : ∀ i, i < 25 → gA M 4 i = nI (ownC i)) : ∀ (w j : Nat), j ≤ 25 → 25 < w + j → (∀ i, i < j → ¬ v = ownC i) → ∃ k, loopN (bX8_kindOf_2 n0) (fun _ _ _ => none) w (nI v) (nI j) M = some (nI k, M) ∧ kdOf v k := by
  intro w
  induction w with
  | zero => intro j _ h; omega
  | succ w ih =>
    intro j hj hw hne
    rw [lpS, bX8_kindOf_2]
    by_cases h : 25 ≤ j
    · rw [if_pos (show (25 : Int32) ≤ nI j from nI_le (a := 25) h (by omega))]
      refine ⟨257, rfl, Or.inl rfl, fun i hi => ⟨fun e => by omega, fun e => absurd e (hne i (by omega))⟩⟩
    · rw [if_neg (show ¬ (25 : Int32) ≤ nI j from nI_ge (b := 25) (by omega) (by decide)), if_neg (nI_in (by omega) (by decide)), nI_clamp (by omega), hO j (by omega)]
      by_cases e : ownC j = v
      · rw [if_pos (by rw [e])]
        refine ⟨260 + j, by rw [← nI_add]; rfl, Or.inr ⟨by omega, by omega⟩, fun i hi => ⟨fun q => ?_, fun q => ?_⟩⟩
        · rw [← e]; congr 1; omega
        · have := ownC_inj i hi j (by omega) (q.symm.trans e.symm)
          omega
      · rw [if_neg (fun q => e ((nI_eq (ownC_lt j (by omega)) hv).mp q)), nI_1]
        refine ih (j + 1) (by omega) (by omega) (fun i hi => ?_)
        by_cases q : i = j
        · rw [q]; exact fun g => e g.symm
        · exact hne i (by omega)
end
section
/-! THE NEXT WORD, NUMBER OR SIGN, as the class reads it: words, numbers, advance -/
def fL (t : Nat → Int32) (s i : Nat) : Nat := vLt t (s + i)
def fD (t : Nat → Int32) (s i : Nat) : Nat := vDg t (s + i)
theorem xword {n0 L s : Nat} {Q : Mem → Prop} (h16 : L ≤ 1600) : ∀ (w k : Nat) (M : Mem), gI M 641 = nI L → gI M 387 = nI s → gI M 390 = nI k → s ≤ k → k ≤ L → L < w + k →
    (∀ e, RnB isLt (gA M 6) L k e → okP (fX8_readWord_75 n0 (nI (e27 (fL (gA M 6) s) (min (e - s) 6))) (sI M 390 (nI e))) Q) →
    okP (loopN (bX8_readWord_7 n0) (fun _ _ _ => none) w (nI (e27 (fL (gA M 6) s) (min (k - s) 6))) (nI k) M) Q := by
  intro w
  induction w with
  | zero => intro k M _ _ _ _ _ h; omega
  | succ w ih =>
    intro k M hL hs h390 hsk hkL hw hQ
    rw [lpS, bX8_readWord_7]
    have stop : RnB isLt (gA M 6) L k k → okP (fX8_readWord_75 n0 (nI (e27 (fL (gA M 6) s) (min (k - s) 6))) M) Q := by
      intro hr
      have := hQ k hr
      rwa [sI_same h390] at this
    by_cases h : L ≤ k
    · exact okP_t (by rw [hL]; exact nI_le h (by omega)) (stop ⟨Nat.le_refl k, hkL, fun i h1 h2 => by omega, fun h1 => by omega⟩)
    · refine okP_f (by rw [hL]; exact nI_ge (by omega) (by omega)) (okP_be (xat hL h16 (by omega)) (okP_be xlet ?_))
      by_cases hl : isLt (gA M 6 k)
      · refine okP_f (fun q => bI_0.mp q hl) ?_
        have next : ∀ c : Nat, c = e27 (fL (gA M 6) s) (min (k + 1 - s) 6) → okP (fX8_readWord_62 n0 (loopN (bX8_readWord_7 n0) (fun _ _ _ => none) w) (nI c) (nI k) M) Q := by
          intro c hc
          unfold fX8_readWord_62
          rw [nI_1, hc]
          refine okP_bnd (ih (k + 1) (sI M 390 (nI (k + 1))) (by rw [gI_ne (by decide)]; exact hL) (by rw [gI_ne (by decide)]; exact hs) gI_at (by omega) (by omega) (by omega) (fun e he => ?_))
          rw [sI_sI]
          refine hQ e ⟨by have := he.1; omega, he.2.1, fun i h1 h2 => ?_, he.2.2.2⟩
          by_cases hi : i = k
          · rw [hi]; exact hl
          · exact he.2.2.1 i (by omega) h2
        by_cases h6 : 6 ≤ k - s
        · refine okP_t (show (6 : Int32) ≤ nI k - gI M 387 by rw [hs, nI_subN hsk]; exact nI_le (a := 6) h6 (by omega)) (next _ ?_)
          rw [show min (k - s) 6 = 6 by omega, show min (k + 1 - s) 6 = 6 by omega]
        · refine okP_f (show ¬ (6 : Int32) ≤ nI k - gI M 387 by rw [hs, nI_subN hsk]; exact nI_ge (b := 6) (by omega) (by decide)) (okP_be (xat hL h16 (by omega)) (okP_bnd ?_))
          show okP (fX8_readWord_62 n0 _ (27 * nI (e27 (fL (gA M 6) s) (min (k - s) 6)) + gA M 6 k - 97 + 1) (nI k) M) Q
          rw [(isLt_v hl).2.2, n27]
          refine next _ ?_
          rw [show min (k + 1 - s) 6 = k - s + 1 by omega, show min (k - s) 6 = k - s by omega, e27]
          unfold fL
          rw [show s + (k - s) = k by omega]
      · refine okP_t (bI_f hl) (stop ⟨Nat.le_refl k, hkL, fun i h1 h2 => by omega, fun _ => hl⟩)
theorem e27_lt {f : Nat → Nat} : ∀ {n : Nat}, (∀ i, i < n → f i ≤ 26) → e27 f n < 27 ^ n
  | 0, _ => Nat.lt_of_sub_eq_succ rfl
  | n + 1, h => by
    have h1 := e27_lt (f := f) (n := n) (fun i hi => h i (by omega))
    have h2 := h n (by omega)
    rw [e27, Nat.pow_succ]
    omega
def V27 (t : Nat → Int32) (s e : Nat) : Nat := e27 (fL t s) (e - s) * 27 ^ (6 - (e - s))
theorem V27_lt {t : Nat → Int32} {L s e : Nat} (h : RnB isLt t L s e) (h6 : e - s ≤ 6) : V27 t s e < 2 ^ 31 := by
  have h1 : e27 (fL t s) (e - s) < 27 ^ (e - s) := e27_lt (fun i hi => (isLt_v (h.2.2.1 (s + i) (by omega) (by omega))).2.1)
  have h2 : 27 ^ (e - s) * 27 ^ (6 - (e - s)) = 27 ^ 6 := by rw [← Nat.pow_add]; congr 1; omega
  have h3 : 0 < 27 ^ (6 - (e - s)) := Nat.pow_pos (by decide)
  have h4 := (Nat.mul_lt_mul_right h3).mpr h1
  rw [h2] at h4
  unfold V27
  exact Nat.lt_trans h4 (by decide)
theorem xreadWord {n0 L s : Nat} {M : Mem} (hn : 1601 ≤ n0) (h16 : L ≤ 1600) (hL : gI M 641 = nI L) (hs : gI M 387 = nI s) (h390 : gI M 390 = nI s) (hsL : s < L) (hl : isLt (gA M 6 s)) (hO : ∀ i, i < 25 → gA M 4 i = nI (ownC i)) :
    okP (fX8_readWord n0 M) (fun M' => ∃ e, RnB isLt (gA M 6) L s e ∧ s < e ∧ ((6 < e - s ∧ M' = sI (sI (sI M 390 (nI e)) 386 258) 388 (nI (s + 6))) ∨ (e - s ≤ 6 ∧ ∃ k, kdOf (V27 (gA M 6) s e) k ∧ M' = sI (sI (sI M 390 (nI e)) 389 (nI (V27 (gA M 6) s e))) 386 (nI k)))) := by
  unfold fX8_readWord fX8_readWord_7
  refine okP_bnd ?_
  rw [hs]
  have h0 : (0 : Int32) = nI (e27 (fL (gA M 6) s) (min (s - s) 6)) := by rw [Nat.sub_self]; rfl
  rw [h0]
  refine xword h16 n0 s M hL hs h390 (Nat.le_refl s) (by omega) (by omega) (fun e he => ?_)
  have hse : s < e := by
    rcases Nat.lt_or_ge s e with h | h
    · exact h
    · have : s = e := Nat.le_antisymm he.1 h
      subst this
      exact absurd hl (he.2.2.2 hsL)
  unfold fX8_readWord_75
  have a1 : gI (sI M 390 (nI e)) 390 - gI (sI M 390 (nI e)) 387 = nI (e - s) := by rw [gI_at, gI_ne (by decide), hs, nI_subN (by omega)]
  rw [a1]
  by_cases h6 : e - s ≤ 6
  · refine okP_t (show nI (e - s) ≤ (6 : Int32) from nI_le (b := 6) h6 (by decide)) ?_
    rw [show min (e - s) 6 = e - s by omega]
    have hf : fX8_fillUp n0 (nI (e27 (fL (gA M 6) s) (e - s))) (nI (e - s)) (sI M 390 (nI e)) = some (nI (V27 (gA M 6) s e), sI M 390 (nI e)) := by
      unfold fX8_fillUp fX8_fillUp_4 V27
      exact xfill (6 - (e - s)) n0 (e - s) _ (by omega) (by omega)
    refine okP_be hf (okP_bnd ?_)
    have hV := V27_lt he h6
    obtain ⟨k, hk, hkd⟩ := xkind (n0 := n0) (M := sI (sI M 390 (nI e)) 389 (nI (V27 (gA M 6) s e))) hV hO n0 0 (by omega) (by omega) (fun i hi => by omega)
    refine okP_be (z := (nI k, sI (sI M 390 (nI e)) 389 (nI (V27 (gA M 6) s e)))) ?_ (okP_some ⟨e, he, hse, Or.inr ⟨h6, k, hkd, rfl⟩⟩)
    show fX8_kindOf n0 (gI (sI (sI M 390 (nI e)) 389 (nI (V27 (gA M 6) s e))) 389) (sI (sI M 390 (nI e)) 389 (nI (V27 (gA M 6) s e))) = _
    rw [gI_at]
    exact hk
  · refine okP_f (show ¬ nI (e - s) ≤ (6 : Int32) from nI_ge (a := 6) (by omega) (by have := he.2.1; omega)) (okP_bnd (okP_some ⟨e, he, hse, Or.inl ⟨by omega, ?_⟩⟩))
    rw [gI_ne (show (387 : Nat) ≠ 386 by decide), gI_ne (show (387 : Nat) ≠ 390 by decide), hs]
    rw [show (6 : Int32) = nI 6 from rfl, nI_add]
theorem xnum {n0 L s : Nat} {Q : Mem → Prop} (h16 : L ≤ 1600) : ∀ (w k : Nat) (M : Mem), gI M 641 = nI L → gI M 387 = nI s → gI M 390 = nI k → s ≤ k → k ≤ L → L < w + k →
    (∀ e, RnB isDg (gA M 6) L k e → okP (fX8_readNumber_72 n0 (nI (e10 (fD (gA M 6) s) (min (e - s) 4))) (sI M 390 (nI e))) Q) →
    okP (loopN (bX8_readNumber_7 n0) (fun _ _ _ => none) w (nI (e10 (fD (gA M 6) s) (min (k - s) 4))) (nI k) M) Q := by
  intro w
  induction w with
  | zero => intro k M _ _ _ _ _ h; omega
  | succ w ih =>
    intro k M hL hs h390 hsk hkL hw hQ
    rw [lpS, bX8_readNumber_7]
    have stop : RnB isDg (gA M 6) L k k → okP (fX8_readNumber_72 n0 (nI (e10 (fD (gA M 6) s) (min (k - s) 4))) M) Q := by
      intro hr
      have := hQ k hr
      rwa [sI_same h390] at this
    by_cases h : L ≤ k
    · exact okP_t (by rw [hL]; exact nI_le h (by omega)) (stop ⟨Nat.le_refl k, hkL, fun i h1 h2 => by omega, fun h1 => by omega⟩)
    · refine okP_f (by rw [hL]; exact nI_ge (by omega) (by omega)) (okP_be (xat hL h16 (by omega)) (okP_be xdig ?_))
      by_cases hl : isDg (gA M 6 k)
      · refine okP_f (fun q => bI_0.mp q hl) ?_
        have next : ∀ c : Nat, c = e10 (fD (gA M 6) s) (min (k + 1 - s) 4) → okP (fX8_readNumber_59 n0 (loopN (bX8_readNumber_7 n0) (fun _ _ _ => none) w) (nI c) (nI k) M) Q := by
          intro c hc
          unfold fX8_readNumber_59
          rw [nI_1, hc]
          refine okP_bnd (ih (k + 1) (sI M 390 (nI (k + 1))) (by rw [gI_ne (by decide)]; exact hL) (by rw [gI_ne (by decide)]; exact hs) gI_at (by omega) (by omega) (by omega) (fun e he => ?_))
          rw [sI_sI]
          refine hQ e ⟨by have := he.1; omega, he.2.1, fun i h1 h2 => ?_, he.2.2.2⟩
          by_cases hi : i = k
          · rw [hi]; exact hl
          · exact he.2.2.1 i (by omega) h2
        by_cases h6 : 4 ≤ k - s
        · refine okP_t (show (4 : Int32) ≤ nI k - gI M 387 by rw [hs, nI_subN hsk]; exact nI_le (a := 4) h6 (by omega)) (next _ ?_)
          rw [show min (k - s) 4 = 4 by omega, show min (k + 1 - s) 4 = 4 by omega]
        · refine okP_f (show ¬ (4 : Int32) ≤ nI k - gI M 387 by rw [hs, nI_subN hsk]; exact nI_ge (b := 4) (by omega) (by decide)) (okP_be (xat hL h16 (by omega)) (okP_bnd ?_))
          show okP (fX8_readNumber_59 n0 _ (10 * nI (e10 (fD (gA M 6) s) (min (k - s) 4)) + gA M 6 k - 48) (nI k) M) Q
          rw [(isDg_v hl).2, n10]
          refine next _ ?_
          rw [show min (k + 1 - s) 4 = k - s + 1 by omega, show min (k - s) 4 = k - s by omega, e10]
          unfold fD
          rw [show s + (k - s) = k by omega]
      · refine okP_t (bI_f hl) (stop ⟨Nat.le_refl k, hkL, fun i h1 h2 => by omega, fun _ => hl⟩)
def V10 (t : Nat → Int32) (s e : Nat) : Nat := e10 (fD t s) (min (e - s) 4)
theorem xreadNum {n0 L s : Nat} {M : Mem} (hn : 1601 ≤ n0) (h16 : L ≤ 1600) (hL : gI M 641 = nI L) (hs : gI M 387 = nI s) (h390 : gI M 390 = nI s) (hsL : s < L) (hl : isDg (gA M 6 s)) :
    okP (fX8_readNumber n0 M) (fun M' => ∃ e, RnB isDg (gA M 6) L s e ∧ s < e ∧ ((4 < e - s ∧ M' = sI (sI (sI (sI (sI M 390 (nI e)) 389 (nI (V10 (gA M 6) s e))) 386 256) 386 258) 388 (nI (s + 4))) ∨ (e - s ≤ 4 ∧ M' = sI (sI (sI M 390 (nI e)) 389 (nI (V10 (gA M 6) s e))) 386 256))) := by
  unfold fX8_readNumber fX8_readNumber_7
  refine okP_bnd ?_
  rw [hs]
  have h0 : (0 : Int32) = nI (e10 (fD (gA M 6) s) (min (s - s) 4)) := by rw [Nat.sub_self]; rfl
  rw [h0]
  refine xnum h16 n0 s M hL hs h390 (Nat.le_refl s) (by omega) (by omega) (fun e he => ?_)
  have hse : s < e := by
    rcases Nat.lt_or_ge s e with h | h
    · exact h
    · have : s = e := Nat.le_antisymm he.1 h
      subst this
      exact absurd hl (he.2.2.2 hsL)
  unfold fX8_readNumber_72
  refine okP_bnd (okP_bnd ?_)
  have a1 : gI (sI (sI (sI M 390 (nI e)) 389 (nI (e10 (fD (gA M 6) s) (min (e - s) 4)))) 386 256) 390 - gI (sI (sI (sI M 390 (nI e)) 389 (nI (e10 (fD (gA M 6) s) (min (e - s) 4)))) 386 256) 387 = nI (e - s) := by
    rw [gI_ne (by decide), gI_ne (by decide), gI_at, gI_ne (by decide), gI_ne (by decide), gI_ne (by decide), hs, nI_subN (by omega)]
  rw [a1]
  by_cases h6 : e - s ≤ 4
  · exact okP_t (show nI (e - s) ≤ (4 : Int32) from nI_le (b := 4) h6 (by decide)) (okP_some ⟨e, he, hse, Or.inr ⟨h6, rfl⟩⟩)
  · refine okP_f (show ¬ nI (e - s) ≤ (4 : Int32) from nI_ge (a := 4) (by omega) (by have := he.2.1; omega)) (okP_bnd (okP_some ⟨e, he, hse, Or.inl ⟨by omega, ?_⟩⟩))
    rw [gI_ne (show (387 : Nat) ≠ 386 by decide), gI_ne (show (387 : Nat) ≠ 386 by decide), gI_ne (show (387 : Nat) ≠ 389 by decide), gI_ne (show (387 : Nat) ≠ 390 by decide), hs]
    rw [show (4 : Int32) = nI 4 from rfl, nI_add]
    rfl
end
section
/-! THE NEXT WORD, NUMBER OR SIGN, as the class reads it: advance -/
def adj (t : Nat → Int32) (s : Nat) : Prop := 0 < s ∧ (isLt (t (s - 1)) ∨ isDg (t (s - 1)))
theorem adj_iff {t : Nat → Int32} {L p s : Nat} {F : Prop} (hs : SkB t L p s) (hB : F ↔ adj t p) : adj t s ↔ (F ∧ p = s) := by
  by_cases h : p = s
  · subst h
    exact ⟨fun g => ⟨hB.mpr g, rfl⟩, fun g => hB.mp g.1⟩
  · refine ⟨fun g => ?_, fun g => absurd g.2 h⟩
    have h1 := hs.1
    have h2 := hs.2.2.1 (s - 1) (by omega) (by omega)
    rcases g.2 with q | q
    · exact absurd h2 (lt_blk q)
    · exact absurd h2 (dg_blk q)
def TokX (t : Nat → Int32) (L s e : Nat) (M' : Mem) : Prop :=
  gI M' 387 = nI s ∧ gI M' 390 = nI e ∧ s ≤ e ∧ e ≤ L ∧
  ((s = L ∧ e = s ∧ gI M' 386 = 259 ∧ gI M' 388 = nI s) ∨
   (s < L ∧ e = s + 1 ∧ ¬ isLt (t s) ∧ ¬ isDg (t s) ∧ gI M' 386 = t s ∧ gI M' 388 = nI s) ∨
   (s < L ∧ s < e ∧ RnB isLt t L s e ∧ isLt (t s) ∧ ((adj t s ∧ gI M' 386 = 258 ∧ gI M' 388 = nI s) ∨ (¬ adj t s ∧ 6 < e - s ∧ gI M' 386 = 258 ∧ gI M' 388 = nI (s + 6)) ∨ (¬ adj t s ∧ e - s ≤ 6 ∧ gI M' 388 = nI s ∧ gI M' 389 = nI (V27 t s e) ∧ ∃ k, kdOf (V27 t s e) k ∧ gI M' 386 = nI k))) ∨
   (s < L ∧ s < e ∧ RnB isDg t L s e ∧ isDg (t s) ∧ ((adj t s ∧ gI M' 386 = 258 ∧ gI M' 388 = nI s) ∨ (¬ adj t s ∧ 4 < e - s ∧ gI M' 386 = 258 ∧ gI M' 388 = nI (s + 4)) ∨ (¬ adj t s ∧ e - s ≤ 4 ∧ gI M' 388 = nI s ∧ gI M' 389 = nI (V10 t s e) ∧ gI M' 386 = 256))))
/-- only ints a .. b are other than before -/
def FI (a b : Nat) (M M' : Mem) : Prop := M'.2 = M.2 ∧ ∀ j, (j < a ∨ b < j) → gI M' j = gI M j
theorem FI.r {a b : Nat} {M : Mem} : FI a b M M := ⟨rfl, fun _ _ => rfl⟩
theorem FI.s {a b k : Nat} {v : Int32} {M M' : Mem} (h : FI a b M M') (h1 : a ≤ k) (h2 : k ≤ b) : FI a b M (sI M' k v) := ⟨h.1, fun j hj => by rw [gI_ne (by omega)]; exact h.2 j hj⟩
theorem FI.tr {a b : Nat} {M M' M2 : Mem} (h : FI a b M M') (h2 : FI a b M' M2) : FI a b M M2 := ⟨h2.1.trans h.1, fun j hj => (h2.2 j hj).trans (h.2 j hj)⟩
theorem FI.A {a b : Nat} {M M' : Mem} (h : FI a b M M') : gA M' = gA M := by
  show M'.2.1 = M.2.1
  rw [h.1]
theorem FI.R {a b : Nat} {M M' : Mem} (h : FI a b M M') : gR M' = gR M := by
  show M'.2.2.1 = M.2.2.1
  rw [h.1]
theorem xwon {n0 : Nat} {M : Mem} : fX8_isWordOrNumber n0 M = some (bI (256 ≤ gI M 386 ∧ ¬ gI M 386 = 259), M) := by
  unfold fX8_isWordOrNumber
  by_cases h1 : gI M 386 < 256
  · rw [if_pos h1, bI_f (fun h => absurd h.1 (Int32.not_le.mpr h1))]
  · by_cases h2 : gI M 386 = 259
    · rw [if_neg h1, if_pos h2, bI_f (fun h => h.2 h2)]
    · rw [if_neg h1, if_neg h2, bI_t ⟨Int32.not_lt.mp h1, h2⟩]
theorem xadv100 {n0 p s : Nat} {F : Prop} [Decidable F] {M : Mem} {Q : Mem → Prop} (hp : p < 2 ^ 31) (hs' : s < 2 ^ 31) (hs : gI M 387 = nI s) (h1 : (F ∧ p = s) → (256 ≤ gI M 386 ∧ ¬ gI M 386 = 259) → Q (sI (sI M 386 258) 388 (nI s))) (h2 : ¬ (F ∧ p = s) ∨ ¬ (256 ≤ gI M 386 ∧ ¬ gI M 386 = 259) → Q M) : okP (fX8_advance_100 n0 (bI F) (nI p) M) Q := by
  unfold fX8_advance_100
  by_cases hF : F
  · refine okP_f (fun q => bI_0.mp q hF) ?_
    rw [hs]
    by_cases e : s = p
    · refine okP_t (by rw [e]) (okP_be xwon ?_)
      by_cases hk : 256 ≤ gI M 386 ∧ ¬ gI M 386 = 259
      · refine okP_f (fun q => bI_0.mp q hk) (okP_bnd (okP_some ?_))
        rw [gI_ne (by decide), hs]
        exact h1 ⟨hF, e.symm⟩ hk
      · exact okP_t (bI_f hk) (okP_some (h2 (Or.inr hk)))
    · exact okP_f (fun q => e ((nI_eq hs' hp).mp q)) (okP_some (h2 (Or.inl (fun g => e g.2.symm))))
  · exact okP_t (bI_f hF) (okP_some (h2 (Or.inl (fun g => hF g.1))))
theorem i256 : (256 : Int32) ≤ 256 ∧ ¬ (256 : Int32) = 259 := by decide
theorem i258 : (256 : Int32) ≤ 258 ∧ ¬ (258 : Int32) = 259 := by decide
theorem kdOf_w {v k : Nat} (h : kdOf v k) : (256 : Int32) ≤ nI k ∧ ¬ nI k = 259 := by
  have h1 : 257 ≤ k ∧ k ≤ 284 ∧ k ≠ 259 := by rcases h.1 with h | h <;> omega
  exact ⟨nI_le (a := 256) (by omega) (by omega), fun e => h1.2.2 ((nI_eq (a := k) (b := 259) (by omega) (by decide)).mp e)⟩
/-- bytes -/
def Byt (t : Nat → Int32) (L : Nat) : Prop := ∀ i, i < L → 0 ≤ t i ∧ t i ≤ 255
theorem byt_sign {x : Int32} (h : 0 ≤ x ∧ x ≤ 255) : ¬ (256 ≤ x ∧ ¬ x = 259) := fun g => by
  have h1 := g.1
  have h2 := h.2
  rw [i_le] at h1 h2
  have a : (256 : Int32).toInt = 256 := by decide
  have b : (255 : Int32).toInt = 255 := by decide
  omega
theorem byt_m1 {x : Int32} (h : 0 ≤ x ∧ x ≤ 255) : ¬ x = -1 := fun g => by
  rw [g] at h
  exact absurd h (by decide)
theorem xadvance {n0 L p : Nat} {M : Mem} (hn : 1601 ≤ n0) (h16 : L ≤ 1600) (hL : gI M 641 = nI L) (hp : p ≤ L) (h390 : gI M 390 = nI p) (hB : (256 ≤ gI M 386 ∧ ¬ gI M 386 = 259) ↔ adj (gA M 6) p) (hby : Byt (gA M 6) L) (hO : ∀ i, i < 25 → gA M 4 i = nI (ownC i)) :
    okP (fX8_advance n0 M) (fun M' => (∃ s e, SkB (gA M 6) L p s ∧ TokX (gA M 6) L s e M') ∧ FI 386 390 M M') := by
  unfold fX8_advance
  refine okP_be xwon (okP_bnd (okP_bind (P := fun M' => ∃ s, SkB (gA M 6) L p s ∧ M' = sI M 390 (nI s)) ?_ ?_))
  · unfold fX8_skipBlanks
    refine okP_bnd ?_
    show okP (fX8_skipBlanks_5 n0 (gI M 390) M) _
    rw [h390]
    exact xskip h16 n0 p M hL hp h390 (by omega)
  intro z11 ⟨s, hs, hz⟩
  subst hz
  have hA := adj_iff hs hB
  refine okP_bnd (okP_bnd ?_)
  have e1 : gI (sI M 390 (nI s)) 390 = nI s := gI_at
  rw [e1]
  have e2 : gI (sI (sI M 390 (nI s)) 387 (nI s)) 390 = nI s := by rw [gI_ne (by decide), gI_at]
  rw [e2]
  have e3 : gI (sI (sI (sI M 390 (nI s)) 387 (nI s)) 388 (nI s)) 390 = nI s := by rw [gI_ne (by decide), gI_ne (by decide), gI_at]
  rw [e3]
  have hsl := hs.2.1
  have hN : FI 386 390 M (sI (sI (sI M 390 (nI s)) 387 (nI s)) 388 (nI s)) := ((FI.r.s (by decide) (by decide)).s (by decide) (by decide)).s (by decide) (by decide)
  have hN1 : gI (sI (sI (sI M 390 (nI s)) 387 (nI s)) 388 (nI s)) 641 = nI L := (hN.2 641 (by decide)).trans hL
  have hN2 : gI (sI (sI (sI M 390 (nI s)) 387 (nI s)) 388 (nI s)) 387 = nI s := by rw [gI_ne (by decide), gI_at]
  have hN3 : gI (sI (sI (sI M 390 (nI s)) 387 (nI s)) 388 (nI s)) 388 = nI s := gI_at
  show okP ((fX7_at n0 (nI s) (sI (sI (sI M 390 (nI s)) 387 (nI s)) 388 (nI s))).bind _) _
  have hN6 : gA (sI (sI (sI M 390 (nI s)) 387 (nI s)) 388 (nI s)) = gA M := hN.A
  generalize hMB : sI (sI (sI M 390 (nI s)) 387 (nI s)) 388 (nI s) = B at *
  show okP ((fX7_at n0 (nI s) B).bind fun z38 => (fX8_isLetter n0 z38.1 z38.2).bind fun z43 => if z43.1 = 0 then (fX8_isDigit n0 z38.1 z43.2).bind fun z57 => if z57.1 = 0 then if z38.1 = (-1 : Int32) then fX8_advance_100 n0 (bI (256 ≤ gI M 386 ∧ ¬ gI M 386 = 259)) (gI M 390) (sI z57.2 386 (259 : Int32)) else bnd (sI z57.2 386 z38.1) fun M87 => fX8_advance_100 n0 (bI (256 ≤ gI M 386 ∧ ¬ gI M 386 = 259)) (gI M 390) (sI M87 390 ((gI M87 390) + (1 : Int32))) else (fX8_readNumber n0 z57.2).bind fun z64 => fX8_advance_100 n0 (bI (256 ≤ gI M 386 ∧ ¬ gI M 386 = 259)) (gI M 390) z64 else (fX8_readWord n0 z43.2).bind fun z50 => fX8_advance_100 n0 (bI (256 ≤ gI M 386 ∧ ¬ gI M 386 = 259)) (gI M 390) z50) _
  rw [h390]
  by_cases hsL : s < L
  · refine okP_be (xat hN1 h16 hsL) (okP_be xlet ?_)
    rw [hN6]
    by_cases hl : isLt (gA M 6 s)
    · refine okP_f (fun q => bI_0.mp q hl) (okP_bind (xreadWord hn h16 hN1 hN2 e3 hsL (by rw [hN6]; exact hl) (fun i hi => by rw [hN6]; exact hO i hi)) ?_)
      rw [hN6]
      rintro z50 ⟨e, he, hse, ⟨h6, rfl⟩ | ⟨h6, k, hk, rfl⟩⟩
      · have hF : FI 386 390 M (sI (sI (sI B 390 (nI e)) 386 258) 388 (nI (s + 6))) := ((hN.s (by decide) (by decide)).s (by decide) (by decide)).s (by decide) (by decide)
        refine xadv100 (s := s) (by omega) (by omega) (by rw [gI_ne (by decide), gI_ne (by decide), gI_ne (by decide)]; exact hN2) (fun h1 _ => ⟨⟨s, e, hs, ?_⟩, (hF.s (by decide) (by decide)).s (by decide) (by decide)⟩) (fun h1 => ⟨⟨s, e, hs, ?_⟩, hF⟩)
        · exact ⟨by simp [gI_sI, hN2], by simp [gI_sI], by omega, he.2.1, Or.inr (Or.inr (Or.inl ⟨hsL, hse, he, hl, Or.inl ⟨hA.mpr h1, by simp [gI_sI], by simp [gI_sI]⟩⟩))⟩
        · refine ⟨by simp [gI_sI, hN2], by simp [gI_sI], by omega, he.2.1, Or.inr (Or.inr (Or.inl ⟨hsL, hse, he, hl, Or.inr (Or.inl ⟨fun g => ?_, h6, by simp [gI_sI], by simp [gI_sI]⟩)⟩))⟩
          rcases h1 with h1 | h1
          · exact h1 (hA.mp g)
          · exact h1 (by simp [gI_sI])
      · have hF : FI 386 390 M (sI (sI (sI B 390 (nI e)) 389 (nI (V27 (gA M 6) s e))) 386 (nI k)) := ((hN.s (by decide) (by decide)).s (by decide) (by decide)).s (by decide) (by decide)
        refine xadv100 (s := s) (by omega) (by omega) (by rw [gI_ne (by decide), gI_ne (by decide), gI_ne (by decide)]; exact hN2) (fun h1 _ => ⟨⟨s, e, hs, ?_⟩, (hF.s (by decide) (by decide)).s (by decide) (by decide)⟩) (fun h1 => ⟨⟨s, e, hs, ?_⟩, hF⟩)
        · exact ⟨by simp [gI_sI, hN2], by simp [gI_sI], by omega, he.2.1, Or.inr (Or.inr (Or.inl ⟨hsL, hse, he, hl, Or.inl ⟨hA.mpr h1, by simp [gI_sI], by simp [gI_sI]⟩⟩))⟩
        · refine ⟨by simp [gI_sI, hN2], by simp [gI_sI], by omega, he.2.1, Or.inr (Or.inr (Or.inl ⟨hsL, hse, he, hl, Or.inr (Or.inr ⟨fun g => ?_, h6, by simp [gI_sI, hN3], by simp [gI_sI], k, hk, by simp [gI_sI]⟩)⟩))⟩
          rcases h1 with h1 | h1
          · exact h1 (hA.mp g)
          · exact h1 (by rw [gI_at]; exact kdOf_w hk)
    · refine okP_t (bI_f hl) (okP_be xdig ?_)
      by_cases hd : isDg (gA M 6 s)
      · refine okP_f (fun q => bI_0.mp q hd) (okP_bind (xreadNum hn h16 hN1 hN2 e3 hsL (by rw [hN6]; exact hd)) ?_)
        rw [hN6]
        rintro z50 ⟨e, he, hse, ⟨h6, rfl⟩ | ⟨h6, rfl⟩⟩
        · have hF : FI 386 390 M (sI (sI (sI (sI (sI B 390 (nI e)) 389 (nI (V10 (gA M 6) s e))) 386 256) 386 258) 388 (nI (s + 4))) := ((((hN.s (by decide) (by decide)).s (by decide) (by decide)).s (by decide) (by decide)).s (by decide) (by decide)).s (by decide) (by decide)
          refine xadv100 (s := s) (by omega) (by omega) (by simp [gI_sI, hN2]) (fun h1 _ => ⟨⟨s, e, hs, ?_⟩, (hF.s (by decide) (by decide)).s (by decide) (by decide)⟩) (fun h1 => ⟨⟨s, e, hs, ?_⟩, hF⟩)
          · exact ⟨by simp [gI_sI, hN2], by simp [gI_sI], by omega, he.2.1, Or.inr (Or.inr (Or.inr ⟨hsL, hse, he, hd, Or.inl ⟨hA.mpr h1, by simp [gI_sI], by simp [gI_sI]⟩⟩))⟩
          · refine ⟨by simp [gI_sI, hN2], by simp [gI_sI], by omega, he.2.1, Or.inr (Or.inr (Or.inr ⟨hsL, hse, he, hd, Or.inr (Or.inl ⟨fun g => ?_, h6, by simp [gI_sI], by simp [gI_sI]⟩)⟩))⟩
            rcases h1 with h1 | h1
            · exact h1 (hA.mp g)
            · exact h1 (by simp [gI_sI])
        · have hF : FI 386 390 M (sI (sI (sI B 390 (nI e)) 389 (nI (V10 (gA M 6) s e))) 386 256) := ((hN.s (by decide) (by decide)).s (by decide) (by decide)).s (by decide) (by decide)
          refine xadv100 (s := s) (by omega) (by omega) (by simp [gI_sI, hN2]) (fun h1 _ => ⟨⟨s, e, hs, ?_⟩, (hF.s (by decide) (by decide)).s (by decide) (by decide)⟩) (fun h1 => ⟨⟨s, e, hs, ?_⟩, hF⟩)
          · exact ⟨by simp [gI_sI, hN2], by simp [gI_sI], by omega, he.2.1, Or.inr (Or.inr (Or.inr ⟨hsL, hse, he, hd, Or.inl ⟨hA.mpr h1, by simp [gI_sI], by simp [gI_sI]⟩⟩))⟩
          · refine ⟨by simp [gI_sI, hN2], by simp [gI_sI], by omega, he.2.1, Or.inr (Or.inr (Or.inr ⟨hsL, hse, he, hd, Or.inr (Or.inr ⟨fun g => ?_, h6, by simp [gI_sI, hN3], by simp [gI_sI], by simp [gI_sI]⟩)⟩))⟩
            rcases h1 with h1 | h1
            · exact h1 (hA.mp g)
            · exact h1 (by simp [gI_sI])
      · refine okP_t (bI_f hd) (okP_f (byt_m1 (hby s hsL)) (okP_bnd ?_))
        have e4 : gI (sI B 386 (gA M 6 s)) 390 + 1 = nI (s + 1) := by rw [gI_ne (by decide), e3, nI_1]
        show okP (fX8_advance_100 n0 _ (nI p) (sI (sI B 386 (gA M 6 s)) 390 (gI (sI B 386 (gA M 6 s)) 390 + 1))) _
        rw [e4]
        have hF : FI 386 390 M (sI (sI B 386 (gA M 6 s)) 390 (nI (s + 1))) := (hN.s (by decide) (by decide)).s (by decide) (by decide)
        refine xadv100 (s := s) (by omega) (by omega) (by simp [gI_sI, hN2]) (fun h1 h2 => ?_) (fun h1 => ⟨⟨s, s + 1, hs, ?_⟩, hF⟩)
        · rw [gI_ne (by decide), gI_at] at h2
          exact absurd h2 (byt_sign (hby s hsL))
        · exact ⟨by simp [gI_sI, hN2], by simp [gI_sI], by omega, by omega, Or.inr (Or.inl ⟨hsL, rfl, hl, hd, by simp [gI_sI], by simp [gI_sI, hN3]⟩)⟩
  · refine okP_be (xat_end hN1 (by omega) (by omega)) (okP_be xlet ?_)
    refine okP_t (bI_f (p := isLt (-1)) (by decide)) (okP_be xdig (okP_t (bI_f (p := isDg (-1)) (by decide)) (okP_t rfl ?_)))
    have hF : FI 386 390 M (sI B 386 259) := hN.s (by decide) (by decide)
    refine xadv100 (s := s) (by omega) (by omega) (by simp [gI_sI, hN2]) (fun h1 h2 => ?_) (fun h1 => ⟨⟨s, s, hs, ?_⟩, hF⟩)
    · rw [gI_at] at h2
      exact absurd rfl h2.2
    · exact ⟨by simp [gI_sI, hN2], by rw [gI_ne (by decide)]; exact e3, by omega, by omega, Or.inl ⟨by omega, rfl, by simp [gI_sI], by simp [gI_sI, hN3]⟩⟩
end
section
/-! THE NEXT WORD, NUMBER OR SIGN, as the reference reads it. u_tn, g_or, g_shl began as rows of kit/laws -/
theorem u_tn {n : Nat} (h : n < 2 ^ 64) : (UInt64.ofNat n).toNat = n := Nat.mod_eq_of_lt h
theorem g_or {k p a b : Nat} (hp : 2 ^ k = p) (ha : a < p) (h : b * p + a < 2 ^ 64) : lN (b * p) ||| lN a = lN (b * p + a) := by
  subst hp
  have h1 : b * 2 ^ k ||| a = b * 2 ^ k + a := by rw [← Nat.shiftLeft_eq, Nat.shiftLeft_add_eq_or_of_lt ha]
  have h3 : UInt64.ofNat (b * 2 ^ k) ||| UInt64.ofNat a = UInt64.ofNat (b * 2 ^ k + a) := UInt64.toNat_inj.mp (by rw [UInt64.toNat_or, u_tn (by omega), u_tn (by omega), u_tn h, h1])
  have h2 := congrArg UInt64.toInt64 h3
  exact h2
theorem g_shl {a k p : Nat} {y : Int64} (hy : y.toBitVec.smod 64 = BitVec.ofNat 64 k) (hk : k < 64) (hp : 2 ^ k = p) (ha : a < 2 ^ 64) : lN a <<< y = lN (a * p) := by
  subst hp
  apply Int64.toBitVec_inj.mp
  rw [Int64.toBitVec_shiftLeft, hy]
  apply BitVec.eq_of_toNat_eq
  have hb : (lN a).toBitVec.toNat = a := Nat.mod_eq_of_lt ha
  have hk' : (BitVec.ofNat 64 k).toNat = k := Nat.mod_eq_of_lt (by omega)
  have h : ((lN a).toBitVec <<< BitVec.ofNat 64 k).toNat = (a * 2 ^ k) % 2 ^ 64 := by simp only [BitVec.shiftLeft_eq', BitVec.toNat_shiftLeft, hb, hk', Nat.shiftLeft_eq]
  exact h
def e256 (f : Nat → Nat) : Nat → Nat
  | 0 => 0
  | n + 1 => 256 * e256 f n + (f n + 96)
theorem e256_lt {f : Nat → Nat} : ∀ {n : Nat}, (∀ i, i < n → f i ≤ 26) → e256 f n < 256 ^ n
  | 0, _ => Nat.lt_of_sub_eq_succ rfl
  | n + 1, h => by
    have h1 := e256_lt (f := f) (n := n) (fun i hi => h i (by omega))
    have h2 := h n (by omega)
    rw [e256, Nat.pow_succ]
    omega
theorem w256 {c v : Nat} (hc : c < 2 ^ 48) (hv : v ≤ 26) : (lN c <<< ((8 : Int32).toInt64 &&& 63)) ||| (nI (v + 96)).toInt64 = lN (256 * c + (v + 96)) := by
  rw [g_shl (k := 8) (p := 256) (by decide) (by decide) (by decide) (by omega), nI_l (by omega), g_or (k := 8) (by decide) (by omega) (by omega)]
  congr 1
  omega
theorem ylet {n0 : Nat} {x : Int32} {M : Mem} : fX12_isLetter n0 x M = some (bI (isLt x), M) := by unfold fX12_isLetter; exact rng_bI
theorem ydig {n0 : Nat} {x : Int32} {M : Mem} : fX12_isDigit n0 x M = some (bI (isDg x), M) := by unfold fX12_isDigit; exact rng_bI
theorem yskip {n0 L : Nat} {M : Mem} {Q : Mem → Prop} (h16 : L ≤ 1600) (hL : gI M 2 = nI L) : ∀ (w p : Nat), p ≤ L → L < w + p → (∀ s, SkB (gA M 1) L p s → okP (fX12_ahead_41 n0 (nI s) M) Q) → okP (loopN (bX12_ahead_5 n0) (fun _ _ => none) w (nI p) M) Q := by
  intro w
  induction w with
  | zero => intro p _ h; omega
  | succ w ih =>
    intro p hp hw hQ
    rw [lpS, bX12_ahead_5]
    have step : blk (gA M 1 p) → p < L → okP (fX12_ahead_35 n0 (loopN (bX12_ahead_5 n0) (fun _ _ => none) w) (nI p) M) Q := by
      intro hb hpL
      unfold fX12_ahead_35
      rw [nI_1]
      refine ih (p + 1) (by omega) (by omega) (fun s hs => hQ s ⟨by have := hs.1; omega, hs.2.1, fun i h1 h2 => ?_, hs.2.2.2⟩)
      by_cases hi : i = p
      · rw [hi]; exact hb
      · exact hs.2.2.1 i (by omega) h2
    by_cases h : L ≤ p
    · exact okP_t (by rw [hL]; exact nI_le h (by omega)) (hQ p ⟨Nat.le_refl p, hp, fun i h1 h2 => by omega, fun h1 => by omega⟩)
    · refine okP_f (by rw [hL]; exact nI_ge (by omega) (by omega)) (okP_f (nI_in (by omega) (by decide)) ?_)
      have hcl : (nI p).toNatClampNeg = p := nI_clamp (by omega)
      simp only [hcl]
      refine okP_ite (fun hb => step (Or.inl hb) (by omega)) (fun hb => okP_f (nI_in (by omega) (by decide)) (okP_ite (fun hc => step (Or.inr hc) (by omega)) (fun hc => hQ p ⟨Nat.le_refl p, hp, fun i h1 h2 => by omega, fun _ g => ?_⟩)))
      rcases g with g | g
      · exact hb g
      · exact hc g
def lxA (a : Int32) (m s k : Nat) : Int32 := if a = -1 then (if m < k - s then nI (s + m) else -1) else a
theorem yword {n0 L s : Nat} {a : Int32} {t : Nat → Int32} (h16 : L ≤ 1600) : ∀ (w k : Nat) (M : Mem), gI M 2 = nI L → gA M 1 = t → s ≤ k → k ≤ L → L < w + k → (∀ i, s ≤ i → i < k → isLt (t i)) → gL M 7 = lN (e256 (fL t s) (min (k - s) 6)) → gI M 12 = lxA a 6 s k →
    okP (loopN (bX12_ahead_204 n0) (fun _ _ _ _ _ _ => none) w (nI k) 1 0 6 (nI (k - s)) M) (fun M' => ∃ e, RnB isLt t L k e ∧ gI M' 5 = nI e ∧ gL M' 7 = lN (e256 (fL t s) (min (e - s) 6)) ∧ gI M' 12 = lxA a 6 s e ∧ Frm (fun j => j = 5 ∨ j = 12) noN (fun j => j = 7) noN M M') := by
  intro w
  induction w with
  | zero => intro k M _ _ _ _ h; omega
  | succ w ih =>
    intro k M hL ht hsk hkL hw hrun h7 h12
    rw [lpS, bX12_ahead_204]
    have stop : RnB isLt t L k k → okP (fX12_ahead_334 n0 (nI k) M) (fun M' => ∃ e, RnB isLt t L k e ∧ gI M' 5 = nI e ∧ gL M' 7 = lN (e256 (fL t s) (min (e - s) 6)) ∧ gI M' 12 = lxA a 6 s e ∧ Frm (fun j => j = 5 ∨ j = 12) noN (fun j => j = 7) noN M M') :=
      fun hr => okP_some ⟨k, hr, gI_at, h7, by rw [gI_ne (by decide)]; exact h12, Frm.r.sI (Or.inl rfl)⟩
    by_cases h : L ≤ k
    · exact okP_t (by rw [hL]; exact nI_le h (by omega)) (stop ⟨Nat.le_refl k, hkL, fun i h1 h2 => by omega, fun h1 => by omega⟩)
    refine okP_f (by rw [hL]; exact nI_ge (by omega) (by omega)) (okP_f i10 (okP_f (nI_in (by omega) (by decide)) (okP_be ylet ?_)))
    rw [nI_clamp (by omega), ht]
    by_cases hl : isLt (t k)
    · refine okP_f (fun q => bI_0.mp q hl) ?_
      have next : ∀ M2 : Mem, Frm (fun j => j = 5 ∨ j = 12) noN (fun j => j = 7) noN M M2 → gL M2 7 = lN (e256 (fL t s) (min (k + 1 - s) 6)) → gI M2 12 = lxA a 6 s (k + 1) → okP (fX12_ahead_325 n0 (loopN (bX12_ahead_204 n0) (fun _ _ _ _ _ _ => none) w) (nI k) 1 0 6 (nI (k - s)) M2) (fun M' => ∃ e, RnB isLt t L k e ∧ gI M' 5 = nI e ∧ gL M' 7 = lN (e256 (fL t s) (min (e - s) 6)) ∧ gI M' 12 = lxA a 6 s e ∧ Frm (fun j => j = 5 ∨ j = 12) noN (fun j => j = 7) noN M M') := by
        intro M2 hF g7 g12
        unfold fX12_ahead_325
        rw [nI_1, nI_1, show k - s + 1 = k + 1 - s by omega]
        refine okP_mono (ih (k + 1) M2 (by rw [hF.1 2 (by omega)]; exact hL) (by rw [hF.2.1 1 id]; exact ht) (by omega) (by omega) (by omega) (fun i h1 h2 => ?_) g7 g12) ?_
        · by_cases hi : i = k
          · rw [hi]; exact hl
          · exact hrun i h1 (by omega)
        · intro M' ⟨e, he, a1, a2, a3, a4⟩
          refine ⟨e, ⟨by have := he.1; omega, he.2.1, fun i h1 h2 => ?_, he.2.2.2⟩, a1, a2, a3, hF.tr a4⟩
          by_cases hi : i = k
          · rw [hi]; exact hl
          · exact he.2.2.1 i (by omega) h2
      have two93 : ∀ M2 : Mem, Frm (fun j => j = 5 ∨ j = 12) noN (fun j => j = 7) noN M M2 → gL M2 7 = lN (e256 (fL t s) (min (k + 1 - s) 6)) → gI M2 12 = lxA a 6 s (k + 1) → okP (fX12_ahead_293 n0 (loopN (bX12_ahead_204 n0) (fun _ _ _ _ _ _ => none) w) (nI k) 1 0 6 (nI (k - s)) M2) (fun M' => ∃ e, RnB isLt t L k e ∧ gI M' 5 = nI e ∧ gL M' 7 = lN (e256 (fL t s) (min (e - s) 6)) ∧ gI M' 12 = lxA a 6 s e ∧ Frm (fun j => j = 5 ∨ j = 12) noN (fun j => j = 7) noN M M') := by
        intro M2 hF g7 g12
        unfold fX12_ahead_293
        exact okP_ite (fun _ => next M2 hF g7 g12) (fun _ => okP_t rfl (next M2 hF g7 g12))
      unfold fX12_ahead_243
      by_cases h6 : k - s < 6
      · refine okP_f (fun q => ?_) ?_
        · have := (nI_eq (a := k - s) (b := 6) (by omega) (by decide)).mp q
          omega
        unfold fX12_ahead_263
        refine okP_f (nI_ge (b := 6) h6 (by decide)) (okP_f i10 (okP_f (nI_in (by omega) (by decide)) ?_))
        rw [nI_clamp (by omega)]
        refine two93 _ (Frm.r.sL rfl) ?_ ?_
        · rw [gL_sL, if_pos rfl, h7, ht, (isLt_v hl).2.2]
          rw [w256]
          · rw [show min (k + 1 - s) 6 = k - s + 1 by omega, show min (k - s) 6 = k - s by omega, e256]
            unfold fL
            rw [show s + (k - s) = k by omega]
          · have h1 := e256_lt (f := fL t s) (n := k - s) (fun i hi => (isLt_v (hrun (s + i) (by omega) (by omega))).2.1)
            rw [show min (k - s) 6 = k - s by omega]
            exact Nat.lt_of_lt_of_le h1 (show 256 ^ (k - s) ≤ 256 ^ 6 from Nat.pow_le_pow_right (by decide) (by omega))
          · exact (isLt_v hl).2.1
        · show gI M 12 = _
          rw [h12]
          unfold lxA
          rw [if_neg (show ¬ 6 < k - s by omega), if_neg (show ¬ 6 < k + 1 - s by omega)]
      · have tail : ∀ M2 : Mem, Frm (fun j => j = 5 ∨ j = 12) noN (fun j => j = 7) noN M M2 → gL M2 7 = gL M 7 → gI M2 12 = lxA a 6 s (k + 1) → okP (fX12_ahead_263 n0 (loopN (bX12_ahead_204 n0) (fun _ _ _ _ _ _ => none) w) (nI k) 1 0 6 (nI (k - s)) M2) (fun M' => ∃ e, RnB isLt t L k e ∧ gI M' 5 = nI e ∧ gL M' 7 = lN (e256 (fL t s) (min (e - s) 6)) ∧ gI M' 12 = lxA a 6 s e ∧ Frm (fun j => j = 5 ∨ j = 12) noN (fun j => j = 7) noN M M') := by
          intro M2 hF g7 g12
          unfold fX12_ahead_263
          refine okP_t (nI_le (a := 6) (by omega) (by omega)) (two93 M2 hF ?_ g12)
          rw [g7, h7, show min (k - s) 6 = 6 by omega, show min (k + 1 - s) 6 = 6 by omega]
        by_cases e6 : k - s = 6
        · refine okP_t (by rw [e6]; rfl) ?_
          rw [h12]
          have ek : k = s + 6 := by omega
          unfold lxA
          rw [if_neg (show ¬ 6 < k - s by omega)]
          by_cases ha : a = -1
          · rw [if_pos ha]
            refine okP_t rfl (tail _ (Frm.r.sI (Or.inr rfl)) rfl ?_)
            rw [gI_at]
            unfold lxA
            rw [if_pos ha, if_pos (by omega), ek]
          · rw [if_neg ha]
            refine okP_f ha (tail _ Frm.r rfl ?_)
            rw [h12]
            unfold lxA
            rw [if_neg ha, if_neg ha]
        · refine okP_f (fun q => e6 ((nI_eq (a := k - s) (b := 6) (by omega) (by decide)).mp q)) (tail _ Frm.r rfl ?_)
          rw [h12]
          unfold lxA
          rw [if_pos (show 6 < k - s by omega), if_pos (show 6 < k + 1 - s by omega)]
    · exact okP_t (bI_f hl) (stop ⟨Nat.le_refl k, hkL, fun i h1 h2 => by omega, fun _ => hl⟩)
end
section
/-! THE NEXT WORD, NUMBER OR SIGN, as the reference reads it: numbers, ahead -/
theorem ynum {n0 L s : Nat} {a : Int32} {t : Nat → Int32} (h16 : L ≤ 1600) : ∀ (w k : Nat) (M : Mem), gI M 2 = nI L → gA M 1 = t → s ≤ k → k ≤ L → L < w + k → (∀ i, s ≤ i → i < k → isDg (t i)) → gI M 6 = nI (e10 (fD t s) (min (k - s) 4)) → gI M 12 = lxA a 4 s k →
    okP (loopN (bX12_ahead_204 n0) (fun _ _ _ _ _ _ => none) w (nI k) 0 1 4 (nI (k - s)) M) (fun M' => ∃ e, RnB isDg t L k e ∧ gI M' 5 = nI e ∧ gI M' 6 = nI (e10 (fD t s) (min (e - s) 4)) ∧ gI M' 12 = lxA a 4 s e ∧ Frm (fun j => j = 5 ∨ j = 6 ∨ j = 12) noN (fun j => j = 7) noN M M') := by
  intro w
  induction w with
  | zero => intro k M _ _ _ _ h; omega
  | succ w ih =>
    intro k M hL ht hsk hkL hw hrun h6v h12
    rw [lpS, bX12_ahead_204]
    have stop : RnB isDg t L k k → okP (fX12_ahead_334 n0 (nI k) M) (fun M' => ∃ e, RnB isDg t L k e ∧ gI M' 5 = nI e ∧ gI M' 6 = nI (e10 (fD t s) (min (e - s) 4)) ∧ gI M' 12 = lxA a 4 s e ∧ Frm (fun j => j = 5 ∨ j = 6 ∨ j = 12) noN (fun j => j = 7) noN M M') :=
      fun hr => okP_some ⟨k, hr, gI_at, by rw [gI_ne (by decide)]; exact h6v, by rw [gI_ne (by decide)]; exact h12, Frm.r.sI (Or.inl rfl)⟩
    by_cases h : L ≤ k
    · exact okP_t (by rw [hL]; exact nI_le h (by omega)) (stop ⟨Nat.le_refl k, hkL, fun i h1 h2 => by omega, fun h1 => by omega⟩)
    refine okP_f (by rw [hL]; exact nI_ge (by omega) (by omega)) (okP_t rfl (okP_f (nI_in (by omega) (by decide)) (okP_be ydig ?_)))
    rw [nI_clamp (by omega), ht]
    by_cases hl : isDg (t k)
    · refine okP_f (fun q => bI_0.mp q hl) ?_
      have next : ∀ M2 : Mem, Frm (fun j => j = 5 ∨ j = 6 ∨ j = 12) noN (fun j => j = 7) noN M M2 → gI M2 6 = nI (e10 (fD t s) (min (k + 1 - s) 4)) → gI M2 12 = lxA a 4 s (k + 1) → okP (fX12_ahead_325 n0 (loopN (bX12_ahead_204 n0) (fun _ _ _ _ _ _ => none) w) (nI k) 0 1 4 (nI (k - s)) M2) (fun M' => ∃ e, RnB isDg t L k e ∧ gI M' 5 = nI e ∧ gI M' 6 = nI (e10 (fD t s) (min (e - s) 4)) ∧ gI M' 12 = lxA a 4 s e ∧ Frm (fun j => j = 5 ∨ j = 6 ∨ j = 12) noN (fun j => j = 7) noN M M') := by
        intro M2 hF g7 g12
        unfold fX12_ahead_325
        rw [nI_1, nI_1, show k - s + 1 = k + 1 - s by omega]
        refine okP_mono (ih (k + 1) M2 (by rw [hF.1 2 (by omega)]; exact hL) (by rw [hF.2.1 1 id]; exact ht) (by omega) (by omega) (by omega) (fun i h1 h2 => ?_) g7 g12) ?_
        · by_cases hi : i = k
          · rw [hi]; exact hl
          · exact hrun i h1 (by omega)
        · intro M' ⟨e, he, a1, a2, a3, a4⟩
          refine ⟨e, ⟨by have := he.1; omega, he.2.1, fun i h1 h2 => ?_, he.2.2.2⟩, a1, a2, a3, hF.tr a4⟩
          by_cases hi : i = k
          · rw [hi]; exact hl
          · exact he.2.2.1 i (by omega) h2
      have tail : ∀ M2 : Mem, Frm (fun j => j = 5 ∨ j = 6 ∨ j = 12) noN (fun j => j = 7) noN M M2 → gI M2 6 = gI M 6 → gI M2 12 = lxA a 4 s (k + 1) → okP (fX12_ahead_263 n0 (loopN (bX12_ahead_204 n0) (fun _ _ _ _ _ _ => none) w) (nI k) 0 1 4 (nI (k - s)) M2) (fun M' => ∃ e, RnB isDg t L k e ∧ gI M' 5 = nI e ∧ gI M' 6 = nI (e10 (fD t s) (min (e - s) 4)) ∧ gI M' 12 = lxA a 4 s e ∧ Frm (fun j => j = 5 ∨ j = 6 ∨ j = 12) noN (fun j => j = 7) noN M M') := by
        intro M2 hF g7 g12
        have sub : okP (fX12_ahead_293 n0 (loopN (bX12_ahead_204 n0) (fun _ _ _ _ _ _ => none) w) (nI k) 0 1 4 (nI (k - s)) M2) (fun M' => ∃ e, RnB isDg t L k e ∧ gI M' 5 = nI e ∧ gI M' 6 = nI (e10 (fD t s) (min (e - s) 4)) ∧ gI M' 12 = lxA a 4 s e ∧ Frm (fun j => j = 5 ∨ j = 6 ∨ j = 12) noN (fun j => j = 7) noN M M') := by
          unfold fX12_ahead_293
          by_cases h6 : 4 ≤ k - s
          · refine okP_t (nI_le (a := 4) (by omega) (by omega)) (next M2 hF ?_ g12)
            rw [g7, h6v, show min (k - s) 4 = 4 by omega, show min (k + 1 - s) 4 = 4 by omega]
          · refine okP_f (nI_ge (b := 4) (by omega) (by decide)) (okP_f i10 (okP_f (nI_in (by omega) (by decide)) ?_))
            rw [nI_clamp (by omega), hF.2.1 1 id, ht, g7, h6v, (isDg_v hl).2, n10]
            refine next _ (hF.sI (Or.inr (Or.inl rfl))) ?_ (by rw [gI_ne (by decide)]; exact g12)
            rw [gI_at, show min (k + 1 - s) 4 = k - s + 1 by omega, show min (k - s) 4 = k - s by omega, e10]
            unfold fD
            rw [show s + (k - s) = k by omega]
        unfold fX12_ahead_263
        exact okP_ite (fun _ => sub) (fun _ => okP_t rfl sub)
      unfold fX12_ahead_243
      by_cases e6 : k - s = 4
      · refine okP_t (by rw [e6]; rfl) ?_
        rw [h12]
        have ek : k = s + 4 := by omega
        unfold lxA
        rw [if_neg (show ¬ 4 < k - s by omega)]
        by_cases ha : a = -1
        · rw [if_pos ha]
          refine okP_t rfl (tail _ (Frm.r.sI (Or.inr (Or.inr rfl))) rfl ?_)
          rw [gI_at]
          unfold lxA
          rw [if_pos ha, if_pos (by omega), ek]
        · rw [if_neg ha]
          refine okP_f ha (tail _ Frm.r rfl ?_)
          rw [h12]
          unfold lxA
          rw [if_neg ha, if_neg ha]
      · refine okP_f (fun q => e6 ((nI_eq (a := k - s) (b := 4) (by omega) (by decide)).mp q)) (tail _ Frm.r rfl ?_)
        rw [h12]
        unfold lxA
        by_cases h5 : 4 < k - s
        · rw [if_pos h5, if_pos (show 4 < k + 1 - s by omega)]
        · rw [if_neg h5, if_neg (show ¬ 4 < k + 1 - s by omega)]
    · exact okP_t (bI_f hl) (stop ⟨Nat.le_refl k, hkL, fun i h1 h2 => by omega, fun _ => hl⟩)
def TokY (t : Nat → Int32) (L s e : Nat) (M' : Mem) : Prop :=
  gI M' 4 = nI s ∧ gI M' 5 = nI e ∧ s ≤ e ∧ e ≤ L ∧
  ((s = L ∧ e = s ∧ gI M' 3 = 0 ∧ gI M' 12 = -1) ∨
   (s < L ∧ e = s + 1 ∧ ¬ isLt (t s) ∧ ¬ isDg (t s) ∧ gI M' 3 = 3 ∧ gI M' 6 = t s ∧ gI M' 12 = -1) ∨
   (s < L ∧ s < e ∧ RnB isLt t L s e ∧ isLt (t s) ∧ gI M' 3 = 1 ∧ ((adj t s ∧ gI M' 12 = nI s) ∨ (¬ adj t s ∧ 6 < e - s ∧ gI M' 12 = nI (s + 6)) ∨ (¬ adj t s ∧ e - s ≤ 6 ∧ gI M' 12 = -1 ∧ gL M' 7 = lN (e256 (fL t s) (e - s))))) ∨
   (s < L ∧ s < e ∧ RnB isDg t L s e ∧ isDg (t s) ∧ gI M' 3 = 2 ∧ ((adj t s ∧ gI M' 12 = nI s) ∨ (¬ adj t s ∧ 4 < e - s ∧ gI M' 12 = nI (s + 4)) ∨ (¬ adj t s ∧ e - s ≤ 4 ∧ gI M' 12 = -1 ∧ gI M' 6 = nI (V10 t s e)))))
/-- what ahead() changes -/
def FrA : Mem → Mem → Prop := Frm (fun j => (3 ≤ j ∧ j ≤ 6) ∨ j = 12) noN (fun j => j = 7) noN
theorem FrA.r {M : Mem} : FrA M M := Frm.r
theorem FrA.i {M M' : Mem} {k : Nat} {v : Int32} (h : FrA M M') (hk : (3 ≤ k ∧ k ≤ 6) ∨ k = 12) : FrA M (sI M' k v) := Frm.sI h hk
theorem FrA.l {M M' : Mem} {v : Int64} (h : FrA M M') : FrA M (sL M' 7 v) := Frm.sL h rfl
theorem FrA.tr {M M' M2 : Mem} (h : FrA M M') (h2 : FrA M' M2) : FrA M M2 := Frm.tr h h2
theorem y98 {n0 s : Nat} {x2 x3 : Int32} {t : Nat → Int32} {M : Mem} {Q : Mem → Prop} (hs : s < 1600) (ht : gA M 1 = t) (h1 : adj t s → okP (fX12_ahead_135 n0 (nI s) x2 x3 (sI M 12 (nI s))) Q) (h2 : ¬ adj t s → okP (fX12_ahead_135 n0 (nI s) x2 x3 M) Q) : okP (fX12_ahead_98 n0 (nI s) x2 x3 M) Q := by
  unfold fX12_ahead_98
  by_cases h0 : s = 0
  · subst h0
    exact okP_t (by decide) (h2 (fun g => absurd g.1 (by decide)))
  · obtain ⟨r, rfl⟩ : ∃ r, s = r + 1 := ⟨s - 1, by omega⟩
    rw [nI_pred]
    refine okP_f (nI_nle (by omega) (by omega)) (okP_f (nI_in (by omega) (by decide)) (okP_be ylet ?_))
    have hcl : (nI r).toNatClampNeg = r := nI_clamp (by omega)
    simp only [hcl, ht]
    by_cases hl : isLt (t r)
    · refine okP_f (fun q => bI_0.mp q hl) ?_
      unfold fX12_ahead_130
      exact h1 ⟨by omega, Or.inl hl⟩
    · refine okP_t (bI_f hl) (okP_f (nI_in (by omega) (by decide)) (okP_be ydig ?_))
      by_cases hd : isDg (t r)
      · refine okP_f (fun q => bI_0.mp q hd) ?_
        unfold fX12_ahead_130
        exact h1 ⟨by omega, Or.inr hd⟩
      · refine okP_t (bI_f hd) (h2 (fun g => ?_))
        rcases g.2 with q | q
        · exact hl q
        · exact hd q
theorem y135w {n0 L s : Nat} {a : Int32} {t : Nat → Int32} {M : Mem} (hn : 1601 ≤ n0) (h16 : L ≤ 1600) (hL : gI M 2 = nI L) (ht : gA M 1 = t) (hsL : s < L) (hl : isLt (t s)) (h4 : gI M 4 = nI s) (ha : gI M 12 = a) :
    okP (fX12_ahead_135 n0 (nI s) 1 0 M) (fun M' => ∃ e, s < e ∧ RnB isLt t L s e ∧ gI M' 4 = nI s ∧ gI M' 5 = nI e ∧ gI M' 3 = 1 ∧ gL M' 7 = lN (e256 (fL t s) (min (e - s) 6)) ∧ gI M' 12 = lxA a 6 s e ∧ FrA M M') := by
  unfold fX12_ahead_135
  refine okP_bnd (okP_bnd (okP_bnd (okP_bnd (okP_f i10 ?_))))
  unfold fX12_ahead_176
  refine okP_f i10 ?_
  unfold fX12_ahead_186
  refine okP_bnd (okP_f i10 ?_)
  unfold fX12_ahead_199 fX12_ahead_204
  have h0 : (0 : Int32) = nI (s - s) := by rw [Nat.sub_self]; rfl
  have hz : lxA a 6 s s = a := by
    unfold lxA
    rw [Nat.sub_self, if_neg (show ¬ 6 < 0 by decide)]
    by_cases q : a = -1
    · rw [if_pos q, q]
    · rw [if_neg q]
  have hF : FrA M (sI (sI (sI (sL (sI M 6 0) 7 0) 3 3) 5 (nI s + 1)) 3 1) := ((((FrA.r.i (by decide)).l).i (by decide)).i (by decide)).i (by decide)
  have key := yword (n0 := n0) (L := L) (s := s) (a := a) (t := t) h16 n0 s (sI (sI (sI (sL (sI M 6 0) 7 0) 3 3) 5 (nI s + 1)) 3 1) (by rw [hF.1 2 (by omega)]; exact hL) (by rw [hF.2.1 1 id]; exact ht) (Nat.le_refl s) (by omega) (by omega) (fun i h1 h2 => by omega) (by rw [Nat.sub_self]; rfl) (by rw [hz, ← ha]; simp [gI_sI, gI_sL])
  rw [← h0] at key
  refine okP_mono key ?_
  intro M' ⟨e, he, a1, a2, a3, a4⟩
  have hse : s < e := by
    rcases Nat.lt_or_ge s e with h | h
    · exact h
    · have : s = e := Nat.le_antisymm he.1 h
      subst this
      exact absurd hl (he.2.2.2 hsL)
  have hG : FrA M M' := hF.tr (a4.wk (fun k hk => by omega) (fun k hk => hk) (fun k hk => hk) (fun k hk => hk))
  refine ⟨e, hse, he, ?_, a1, ?_, a2, a3, hG⟩
  · rw [a4.1 4 (by omega)]
    simp [gI_sI, gI_sL, h4]
  · rw [a4.1 3 (by omega)]
    simp [gI_sI]
theorem y135n {n0 L s : Nat} {a : Int32} {t : Nat → Int32} {M : Mem} (hn : 1601 ≤ n0) (h16 : L ≤ 1600) (hL : gI M 2 = nI L) (ht : gA M 1 = t) (hsL : s < L) (hl : isDg (t s)) (h4 : gI M 4 = nI s) (ha : gI M 12 = a) :
    okP (fX12_ahead_135 n0 (nI s) 0 1 M) (fun M' => ∃ e, s < e ∧ RnB isDg t L s e ∧ gI M' 4 = nI s ∧ gI M' 5 = nI e ∧ gI M' 3 = 2 ∧ gI M' 6 = nI (V10 t s e) ∧ gI M' 12 = lxA a 4 s e ∧ FrA M M') := by
  unfold fX12_ahead_135
  refine okP_bnd (okP_bnd (okP_bnd (okP_bnd (okP_t rfl (okP_f i10 ?_)))))
  unfold fX12_ahead_176
  refine okP_t rfl ?_
  unfold fX12_ahead_186
  refine okP_bnd (okP_t rfl ?_)
  unfold fX12_ahead_199 fX12_ahead_204
  have h0 : (0 : Int32) = nI (s - s) := by rw [Nat.sub_self]; rfl
  have hz : lxA a 4 s s = a := by
    unfold lxA
    rw [Nat.sub_self, if_neg (show ¬ 4 < 0 by decide)]
    by_cases q : a = -1
    · rw [if_pos q, q]
    · rw [if_neg q]
  have hF : FrA M (sI (sI (sI (sL (sI M 6 0) 7 0) 3 3) 5 (nI s + 1)) 3 2) := ((((FrA.r.i (by decide)).l).i (by decide)).i (by decide)).i (by decide)
  have key := ynum (n0 := n0) (L := L) (s := s) (a := a) (t := t) h16 n0 s (sI (sI (sI (sL (sI M 6 0) 7 0) 3 3) 5 (nI s + 1)) 3 2) (by rw [hF.1 2 (by omega)]; exact hL) (by rw [hF.2.1 1 id]; exact ht) (Nat.le_refl s) (by omega) (by omega) (fun i h1 h2 => by omega) (by rw [Nat.sub_self]; rfl) (by rw [hz, ← ha]; simp [gI_sI, gI_sL])
  rw [show nI (s - s) = (0 : Int32) from h0.symm] at key
  refine okP_mono key ?_
  intro M' ⟨e, he, a1, a2, a3, a4⟩
  have hse : s < e := by
    rcases Nat.lt_or_ge s e with h | h
    · exact h
    · have : s = e := Nat.le_antisymm he.1 h
      subst this
      exact absurd hl (he.2.2.2 hsL)
  have hG : FrA M M' := hF.tr (a4.wk (fun k hk => by omega) (fun k hk => hk) (fun k hk => hk) (fun k hk => hk))
  refine ⟨e, hse, he, ?_, a1, ?_, a2, a3, hG⟩
  · rw [a4.1 4 (by omega)]
    simp [gI_sI, gI_sL, h4]
  · rw [a4.1 3 (by omega)]
    simp [gI_sI]
theorem lxA_s {s e m : Nat} (hs : s < 2 ^ 31) : lxA (nI s) m s e = nI s := by
  unfold lxA
  rw [if_neg (fun q => ?_)]
  have := nI_pos (n := s) hs
  rw [q] at this
  exact this (by decide)
theorem yahead {n0 L p : Nat} {M : Mem} (hn : 1601 ≤ n0) (h16 : L ≤ 1600) (hL : gI M 2 = nI L) (hp : p ≤ L) (h5 : gI M 5 = nI p) :
    okP (fX12_ahead n0 M) (fun M' => (∃ s e, SkB (gA M 1) L p s ∧ TokY (gA M 1) L s e M') ∧ FrA M M') := by
  unfold fX12_ahead
  refine okP_bnd ?_
  unfold fX12_ahead_5
  rw [h5]
  refine yskip h16 hL n0 p hp (by omega) (fun s hs => ?_)
  have hsl := hs.2.1
  unfold fX12_ahead_41
  refine okP_bnd (okP_bnd (okP_bnd (okP_bnd ?_)))
  have hF : FrA M (sI (sI (sI (sI M 4 (nI s)) 5 (nI s)) 3 0) 12 (-1)) := (((FrA.r.i (by decide)).i (by decide)).i (by decide)).i (by decide)
  have b2 : gI (sI (sI (sI (sI M 4 (nI s)) 5 (nI s)) 3 0) 12 (-1)) 2 = nI L := by rw [hF.1 2 (by omega)]; exact hL
  have b1 : gA (sI (sI (sI (sI M 4 (nI s)) 5 (nI s)) 3 0) 12 (-1)) 1 = gA M 1 := hF.2.1 1 id
  have b4 : gI (sI (sI (sI (sI M 4 (nI s)) 5 (nI s)) 3 0) 12 (-1)) 4 = nI s := by simp [gI_sI]
  have b5 : gI (sI (sI (sI (sI M 4 (nI s)) 5 (nI s)) 3 0) 12 (-1)) 5 = nI s := by simp [gI_sI]
  have b3 : gI (sI (sI (sI (sI M 4 (nI s)) 5 (nI s)) 3 0) 12 (-1)) 3 = 0 := by simp [gI_sI]
  have b12 : gI (sI (sI (sI (sI M 4 (nI s)) 5 (nI s)) 3 0) 12 (-1)) 12 = -1 := gI_at
  generalize sI (sI (sI (sI M 4 (nI s)) 5 (nI s)) 3 0) 12 (-1) = B at *
  rw [b2]
  by_cases hsL : s < L
  · refine okP_t (nI_lt hsL (by omega)) (okP_f (nI_in (by omega) (by decide)) (okP_be ylet (okP_f (nI_in (by omega) (by decide)) (okP_be ydig ?_))))
    show okP (if bI (isLt (gA B 1 (nI s).toNatClampNeg)) = 0 then if bI (isDg (gA B 1 (nI s).toNatClampNeg)) = 0 then fX12_ahead_135 n0 (nI s) (bI (isLt (gA B 1 (nI s).toNatClampNeg))) (bI (isDg (gA B 1 (nI s).toNatClampNeg))) B else fX12_ahead_98 n0 (nI s) (bI (isLt (gA B 1 (nI s).toNatClampNeg))) (bI (isDg (gA B 1 (nI s).toNatClampNeg))) B else fX12_ahead_98 n0 (nI s) (bI (isLt (gA B 1 (nI s).toNatClampNeg))) (bI (isDg (gA B 1 (nI s).toNatClampNeg))) B) _
    rw [nI_clamp (by omega), b1]
    by_cases hl : isLt (gA M 1 s)
    · have hd := lt_dg hl
      rw [bI_t hl, bI_f hd]
      refine okP_f i10 (y98 (by omega) b1 (fun hA => ?_) (fun hA => ?_))
      · refine okP_mono (y135w (a := nI s) hn h16 (by rw [gI_ne (by decide)]; exact b2) (by exact b1) hsL hl (by rw [gI_ne (by decide)]; exact b4) gI_at) ?_
        intro M' ⟨e, h1, h2, h3, h4', h5', h6, h7, h8⟩
        rw [lxA_s (by omega)] at h7
        exact ⟨⟨s, e, hs, h3, h4', by omega, h2.2.1, Or.inr (Or.inr (Or.inl ⟨hsL, h1, h2, hl, h5', Or.inl ⟨hA, h7⟩⟩))⟩, (hF.i (Or.inr rfl)).tr h8⟩
      · refine okP_mono (y135w (a := -1) hn h16 b2 b1 hsL hl b4 b12) ?_
        intro M' ⟨e, h1, h2, h3, h4', h5', h6, h7, h8⟩
        refine ⟨⟨s, e, hs, h3, h4', by omega, h2.2.1, Or.inr (Or.inr (Or.inl ⟨hsL, h1, h2, hl, h5', Or.inr ?_⟩))⟩, hF.tr h8⟩
        unfold lxA at h7
        rw [if_pos rfl] at h7
        by_cases g : 6 < e - s
        · rw [if_pos g] at h7
          exact Or.inl ⟨hA, g, h7⟩
        · rw [if_neg g] at h7
          rw [show min (e - s) 6 = e - s by omega] at h6
          exact Or.inr ⟨hA, by omega, h7, h6⟩
    · by_cases hd : isDg (gA M 1 s)
      · rw [bI_f hl, bI_t hd]
        refine okP_t rfl (okP_f i10 (y98 (by omega) b1 (fun hA => ?_) (fun hA => ?_)))
        · refine okP_mono (y135n (a := nI s) hn h16 (by rw [gI_ne (by decide)]; exact b2) (by exact b1) hsL hd (by rw [gI_ne (by decide)]; exact b4) gI_at) ?_
          intro M' ⟨e, h1, h2, h3, h4', h5', h6, h7, h8⟩
          rw [lxA_s (by omega)] at h7
          exact ⟨⟨s, e, hs, h3, h4', by omega, h2.2.1, Or.inr (Or.inr (Or.inr ⟨hsL, h1, h2, hd, h5', Or.inl ⟨hA, h7⟩⟩))⟩, (hF.i (Or.inr rfl)).tr h8⟩
        · refine okP_mono (y135n (a := -1) hn h16 b2 b1 hsL hd b4 b12) ?_
          intro M' ⟨e, h1, h2, h3, h4', h5', h6, h7, h8⟩
          refine ⟨⟨s, e, hs, h3, h4', by omega, h2.2.1, Or.inr (Or.inr (Or.inr ⟨hsL, h1, h2, hd, h5', Or.inr ?_⟩))⟩, hF.tr h8⟩
          unfold lxA at h7
          rw [if_pos rfl] at h7
          by_cases g : 4 < e - s
          · rw [if_pos g] at h7
            exact Or.inl ⟨hA, g, h7⟩
          · rw [if_neg g] at h7
            exact Or.inr ⟨hA, by omega, h7, h6⟩
      · rw [bI_f hl, bI_f hd]
        refine okP_t rfl (okP_t rfl ?_)
        unfold fX12_ahead_135
        refine okP_bnd (okP_bnd (okP_bnd (okP_bnd (okP_t rfl (okP_t rfl (okP_f (nI_in (by omega) (by decide)) (okP_some ⟨⟨s, s + 1, hs, ?_⟩, ?_⟩)))))))
        · refine ⟨by simp [gI_sI, gI_sL, b4], by simp [gI_sI, nI_1], by omega, by omega, Or.inr (Or.inl ⟨hsL, rfl, hl, hd, by simp [gI_sI], ?_, by simp [gI_sI, gI_sL, b12]⟩)⟩
          rw [gI_at, nI_clamp (by omega)]
          show gA B 1 s = _
          rw [b1]
        · exact hF.tr (((((FrA.r.i (by decide)).l).i (by decide)).i (by decide)).i (by decide))
  · refine okP_f (nI_nlt (by omega) (by omega)) (okP_some ⟨⟨s, s, hs, b4, b5, by omega, by omega, Or.inl ⟨by omega, rfl, b3, b12⟩⟩, hF⟩)
end
section
/-! WORDS: two codes of one word; the token of both sides -/
theorem e27_inj {f g : Nat → Nat} : ∀ {k : Nat}, (∀ i, i < k → f i ≤ 26 ∧ g i ≤ 26) → e27 f k = e27 g k → ∀ i, i < k → f i = g i
  | 0, _, _, i, hi => by omega
  | k + 1, h, e, i, hi => by
    have h1 := h k (by omega)
    rw [e27, e27] at e
    have h2 : e27 f k = e27 g k := by omega
    by_cases q : i = k
    · rw [q]; omega
    · exact e27_inj (fun j hj => h j (by omega)) h2 i (by omega)
theorem e256_inj {f g : Nat → Nat} : ∀ {n m : Nat}, (∀ i, i < n → f i ≤ 26) → (∀ i, i < m → g i ≤ 26) → e256 f n = e256 g m → n = m ∧ ∀ i, i < n → f i = g i
  | 0, 0, _, _, _ => ⟨rfl, fun i hi => by omega⟩
  | 0, m + 1, _, _, e => by rw [e256, e256] at e; omega
  | n + 1, 0, _, _, e => by rw [e256, e256] at e; omega
  | n + 1, m + 1, h1, h2, e => by
    have a := h1 n (by omega)
    have b := h2 m (by omega)
    rw [e256, e256] at e
    obtain ⟨q, r⟩ := e256_inj (f := f) (g := g) (n := n) (m := m) (fun i hi => h1 i (by omega)) (fun i hi => h2 i (by omega)) (by omega)
    subst q
    refine ⟨rfl, fun i hi => ?_⟩
    by_cases q : i = n
    · rw [q]; omega
    · exact r i (by omega)
theorem e27_congr {f g : Nat → Nat} : ∀ {n : Nat}, (∀ i, i < n → f i = g i) → e27 f n = e27 g n
  | 0, _ => rfl
  | n + 1, h => by rw [e27, e27, e27_congr (fun i hi => h i (by omega)), h n (by omega)]
theorem e256_congr {f g : Nat → Nat} : ∀ {n : Nat}, (∀ i, i < n → f i = g i) → e256 f n = e256 g n
  | 0, _ => rfl
  | n + 1, h => by rw [e256, e256, e256_congr (fun i hi => h i (by omega)), h n (by omega)]
theorem e27_pad {f : Nat → Nat} {n : Nat} : ∀ (j : Nat), e27 (fun i => if i < n then f i else 0) (n + j) = e27 f n * 27 ^ j
  | 0 => by
    rw [Nat.add_zero, Nat.pow_zero, Nat.mul_one]
    exact e27_congr (fun i hi => if_pos hi)
  | j + 1 => by
    show 27 * e27 _ (n + j) + (if n + j < n then f (n + j) else 0) = _
    rw [e27_pad j, if_neg (by omega), Nat.pow_succ, Nat.add_zero, Nat.mul_comm 27, Nat.mul_assoc]
def WR (v w : Nat) : Prop := ∃ f : Nat → Nat, ∃ n, 1 ≤ n ∧ n ≤ 6 ∧ (∀ i, i < n → 1 ≤ f i ∧ f i ≤ 26) ∧ v = e27 f n * 27 ^ (6 - n) ∧ w = e256 f n
theorem WR.iff {v w v' w' : Nat} (h : WR v w) (h' : WR v' w') : v = v' ↔ w = w' := by
  obtain ⟨f, n, n1, n6, hf, rfl, rfl⟩ := h
  obtain ⟨g, m, m1, m6, hg, rfl, rfl⟩ := h'
  constructor
  · intro e
    rw [← e27_pad, ← e27_pad, show n + (6 - n) = 6 by omega, show m + (6 - m) = 6 by omega] at e
    have q := e27_inj (fun i _ => ⟨by
      show (if i < n then f i else 0) ≤ 26
      by_cases h : i < n
      · rw [if_pos h]; exact (hf i h).2
      · rw [if_neg h]; omega, by
      show (if i < m then g i else 0) ≤ 26
      by_cases h : i < m
      · rw [if_pos h]; exact (hg i h).2
      · rw [if_neg h]; omega⟩) e
    have hnm : n = m := by
      rcases Nat.lt_trichotomy n m with h | h | h
      · have := q n (by omega)
        simp only [Nat.lt_irrefl, if_false, h, if_true] at this
        have := (hg n h).1
        omega
      · exact h
      · have := q m (by omega)
        simp only [Nat.lt_irrefl, if_false, h, if_true] at this
        have := (hf m h).1
        omega
    subst hnm
    refine e256_congr (fun i hi => ?_)
    have := q i (by omega)
    simp only [hi, if_true] at this
    exact this
  · intro e
    obtain ⟨rfl, q⟩ := e256_inj (fun i hi => (hf i hi).2) (fun i hi => (hg i hi).2) e
    rw [e27_congr q]
theorem WR.v_lt {v w : Nat} (h : WR v w) : v < 2 ^ 31 := by
  obtain ⟨f, n, n1, n6, hf, rfl, rfl⟩ := h
  have h1 : e27 f n < 27 ^ n := e27_lt (fun i hi => (hf i hi).2)
  have h2 : 27 ^ n * 27 ^ (6 - n) = 27 ^ 6 := by rw [← Nat.pow_add]; congr 1; omega
  have h3 : 0 < 27 ^ (6 - n) := Nat.pow_pos (by decide)
  have h4 := (Nat.mul_lt_mul_right h3).mpr h1
  rw [h2] at h4
  exact Nat.lt_trans h4 (by decide)
theorem WR.w_lt {v w : Nat} (h : WR v w) : w < 2 ^ 48 := by
  obtain ⟨f, n, n1, n6, hf, rfl, rfl⟩ := h
  have h1 : e256 f n < 256 ^ n := e256_lt (fun i hi => (hf i hi).2)
  exact Nat.lt_of_lt_of_le h1 (show 256 ^ n ≤ 256 ^ 6 from Nat.pow_le_pow_right (by decide) n6)
theorem WR.nI {v w v' w' : Nat} (h : WR v w) (h' : WR v' w') : nI v = nI v' ↔ lN w = lN w' := by
  rw [nI_eq h.v_lt h'.v_lt, pk_lEQ (Nat.lt_trans h.w_lt (by decide)) (Nat.lt_trans h'.w_lt (by decide))]
  exact h.iff h'
def ownLs : List Nat := [499967946343, 512802514792, 465491424371, 109330312357234, 1919902052, 29807, 495874044019, 1885432941, 6840691, 431365910119, 24948, 1752135026, 1935767923, 1735356005, 1885434739, 1751477348, 120299592184933, 435627783289, 26982, 28530, 6385252, 7237492, 6384748, 7170414, 7168376]
def ownL (i : Nat) : Nat := ownLs.getD i 0
def ownWs : List (List Nat) := [[20, 8, 9, 14, 7], [23, 5, 9, 7, 8], [12, 1, 19, 20, 19], [3, 15, 18, 14, 5, 18], [18, 15, 1, 4], [20, 15], [19, 20, 5, 16, 19], [16, 1, 12, 13], [8, 1, 19], [4, 15, 9, 14, 7], [1, 20], [8, 15, 21, 18], [19, 1, 25, 19], [7, 15, 14, 5], [16, 1, 19, 19], [8, 5, 12, 4], [13, 9, 14, 21, 20, 5], [5, 13, 16, 20, 25], [9, 6], [15, 18], [1, 14, 4], [14, 15, 20], [1, 12, 12], [13, 9, 14], [13, 1, 24]]
def ownW (i j : Nat) : Nat := (ownWs.getD i []).getD j 0
theorem own_ok : ∀ i, i < 25 → 1 ≤ (ownWs.getD i []).length ∧ (ownWs.getD i []).length ≤ 6 ∧ (∀ j, j < (ownWs.getD i []).length → 1 ≤ ownW i j ∧ ownW i j ≤ 26) ∧ ownC i = e27 (ownW i) (ownWs.getD i []).length * 27 ^ (6 - (ownWs.getD i []).length) ∧ ownL i = e256 (ownW i) (ownWs.getD i []).length := by decide +kernel
theorem own_WR {i : Nat} (hi : i < 25) : WR (ownC i) (ownL i) := ⟨ownW i, (ownWs.getD i []).length, own_ok i hi⟩
theorem cmp0 {x y : Int64} : lg_cmp x y = 0 ↔ x = y := lg_cmp_eq x y
/-- the text of both sides -/
def Lex0 (L : Nat) (MX MY : Mem) : Prop := gI MX 641 = nI L ∧ gI MY 2 = nI L ∧ L ≤ 1600 ∧ gA MY 1 = gA MX 6 ∧ Byt (gA MX 6) L ∧ ∀ i, i < 25 → gA MX 4 i = nI (ownC i)
def KR (kd pl va sg lx vy : Int32) (wd : Int64) (L s : Nat) : Prop :=
  (kd = 259 ∧ s = L ∧ sg = 0 ∧ lx = -1 ∧ pl = nI s)
  ∨ (kd = 258 ∧ s < L ∧ (sg = 1 ∨ sg = 2) ∧ ∃ q, q < L ∧ pl = nI q ∧ lx = nI q)
  ∨ (kd = 256 ∧ s < L ∧ sg = 2 ∧ lx = -1 ∧ pl = nI s ∧ ∃ v, v ≤ 9999 ∧ va = nI v ∧ vy = nI v)
  ∨ ((0 ≤ kd ∧ kd ≤ 255) ∧ s < L ∧ sg = 3 ∧ lx = -1 ∧ pl = nI s ∧ vy = kd)
  ∨ (s < L ∧ sg = 1 ∧ lx = -1 ∧ pl = nI s ∧ ∃ v w k, WR v w ∧ kdOf v k ∧ kd = nI k ∧ va = nI v ∧ wd = lN w)
/-- where the next token begins behind this one -/
def Beh (L s : Nat) (MX MY : Mem) : Prop := ∃ e, gI MX 390 = nI e ∧ gI MY 5 = nI e ∧ s ≤ e ∧ e ≤ L ∧ (s < L → s < e ∧ ((256 ≤ gI MX 386 ∧ ¬ gI MX 386 = 259) ↔ adj (gA MX 6) e) ∧ (gI MX 386 = 281 → s + 3 ≤ e))
def TokR (L s : Nat) (MX MY : Mem) : Prop := gI MX 387 = nI s ∧ gI MY 4 = nI s ∧ s ≤ L ∧ Beh L s MX MY ∧ KR (gI MX 386) (gI MX 388) (gI MX 389) (gI MY 3) (gI MY 12) (gI MY 6) (gL MY 7) L s
theorem e10_le {f : Nat → Nat} : ∀ {n : Nat}, (∀ i, i < n → f i ≤ 9) → e10 f n < 10 ^ n
  | 0, _ => Nat.lt_of_sub_eq_succ rfl
  | n + 1, h => by
    have h1 := e10_le (f := f) (n := n) (fun i hi => h i (by omega))
    have h2 := h n (by omega)
    rw [e10, Nat.pow_succ]
    omega
theorem V10_le {t : Nat → Int32} {L s e : Nat} (h : RnB isDg t L s e) : V10 t s e ≤ 9999 := by
  unfold V10
  have h1 : e10 (fD t s) (min (e - s) 4) < 10 ^ (min (e - s) 4) := e10_le (fun i hi => (isDg_v (h.2.2.1 (s + i) (by omega) (by omega))).1)
  have h2 : 10 ^ (min (e - s) 4) ≤ 10 ^ 4 := Nat.pow_le_pow_right (by decide) (by omega)
  omega
theorem adj_run {P : Int32 → Prop} {t : Nat → Int32} {L s e : Nat} (h : RnB P t L s e) (hs : s < e) (hP : ∀ x, P x → isLt x ∨ isDg x) : adj t e := ⟨by omega, hP _ (h.2.2.1 (e - 1) (by omega) (by omega))⟩
theorem V27_not {t : Nat → Int32} {s e : Nat} (h : V27 t s e = ownC 21) (h6 : e - s ≤ 6) : 3 ≤ e - s := by
  rcases Nat.lt_or_ge (e - s) 3 with q | q
  · have h2 : V27 t s e = e27 (fL t s) (e - s) * 27 ^ (2 - (e - s)) * 531441 := by
      unfold V27
      rw [Nat.mul_assoc, show 531441 = 27 ^ 4 from rfl, ← Nat.pow_add, show 2 - (e - s) + 4 = 6 - (e - s) by omega]
    have h3 : ownC 21 % 531441 = 393660 := by decide
    rw [← h, h2, Nat.mul_mod_left] at h3
    omega
  · exact q
theorem adv2 {n0 L p : Nat} {MX MY : Mem} (hn : 1601 ≤ n0) (h0 : Lex0 L MX MY) (hp : p ≤ L) (hx : gI MX 390 = nI p) (hy : gI MY 5 = nI p) (hB : (256 ≤ gI MX 386 ∧ ¬ gI MX 386 = 259) ↔ adj (gA MX 6) p) :
    ∃ MX' MY' s, fX8_advance n0 MX = some MX' ∧ fX12_ahead n0 MY = some MY' ∧ p ≤ s ∧ TokR L s MX' MY' ∧ FI 386 390 MX MX' ∧ FrA MY MY' := by
  obtain ⟨hLX, hLY, h16, hT, hby, hO⟩ := h0
  obtain ⟨MX', ex, ⟨s, e, hs, hX⟩, fx⟩ := xadvance hn h16 hLX hp hx hB hby hO
  obtain ⟨MY', ey, ⟨s', e', hs', hY⟩, fy⟩ := yahead hn h16 hLY hp hy
  rw [hT] at hs' hY
  obtain rfl := hs.uniq hs'
  refine ⟨MX', MY', s, ex, ey, hs.1, ?_, fx, fy⟩
  obtain ⟨x1, x2, x3, x4, x5⟩ := hX
  obtain ⟨y1, y2, y3, y4, y5⟩ := hY
  have hA6 : gA MX' 6 = gA MX 6 := by rw [fx.A]
  rcases x5 with ⟨a1, a2, a3, a4⟩ | ⟨a1, a2, a3, a4, a5, a6⟩ | ⟨a1, a2, a3, a4, a5⟩ | ⟨a1, a2, a3, a4, a5⟩
  · rcases y5 with ⟨b1, b2, b3, b4⟩ | ⟨b1, _⟩ | ⟨b1, _⟩ | ⟨b1, _⟩
    · obtain rfl : e = e' := by omega
      exact ⟨x1, y1, by omega, ⟨e, x2, y2, x3, x4, fun h => by omega⟩, Or.inl ⟨a3, a1, b3, b4, a4⟩⟩
    · omega
    · omega
    · omega
  · rcases y5 with ⟨b1, b2, b3, b4⟩ | ⟨b1, b2, b3, b4, b5, b6, b7⟩ | ⟨b1, b2, b3, b4, b5⟩ | ⟨b1, b2, b3, b4, b5⟩
    · omega
    · obtain rfl : e = e' := by omega
      have hb := hby s a1
      refine ⟨x1, y1, by omega, ⟨e, x2, y2, x3, x4, fun h => ⟨by omega, ?_, fun g => ?_⟩⟩, Or.inr (Or.inr (Or.inr (Or.inl ⟨by rw [a5]; exact hb, a1, b5, b7, a6, by rw [b6, a5]⟩)))⟩
      rotate_left
      · rw [a5] at g
        have := hb.2
        rw [g] at this
        exact absurd this (by decide)
      rw [a5, hA6]
      refine ⟨fun g => absurd g (byt_sign hb), fun g => ?_⟩
      have := g.2
      rw [a2, Nat.add_sub_cancel] at this
      rcases this with q | q
      · exact absurd q a3
      · exact absurd q a4
    · exact absurd b4 a3
    · exact absurd b4 a4
  · rcases y5 with ⟨b1, b2, b3, b4⟩ | ⟨b1, b2, b3, b4, b5, b6, b7⟩ | ⟨b1, b2, b3, b4, b5, b6⟩ | ⟨b1, b2, b3, b4, b5⟩
    · omega
    · exact absurd a4 b3
    · obtain rfl := a3.uniq b3
      have hadj : adj (gA MX 6) e := adj_run a3 a2 (fun _ => Or.inl)
      have mk : (256 ≤ gI MX' 386 ∧ ¬ gI MX' 386 = 259) → (gI MX' 386 = 281 → s + 3 ≤ e) → Beh L s MX' MY' := fun g g3 => ⟨e, x2, y2, x3, x4, fun _ => ⟨a2, by rw [hA6]; exact ⟨fun _ => hadj, fun _ => g⟩, g3⟩⟩
      rcases a5 with ⟨c1, c2, c3⟩ | ⟨c1, c2, c3, c4⟩ | ⟨c1, c2, c3, c4, k, ck, c5⟩
      · rcases b6 with ⟨d1, d2⟩ | ⟨d1, _⟩ | ⟨d1, _⟩
        · exact ⟨x1, y1, by omega, mk (by rw [c2]; exact i258) (fun g => by rw [c2] at g; exact absurd g (by decide)), Or.inr (Or.inl ⟨c2, a1, Or.inl b5, s, a1, c3, d2⟩)⟩
        · exact absurd c1 d1
        · exact absurd c1 d1
      · rcases b6 with ⟨d1, d2⟩ | ⟨d1, d2, d3⟩ | ⟨d1, d2, d3⟩
        · exact absurd d1 c1
        · exact ⟨x1, y1, by omega, mk (by rw [c3]; exact i258) (fun g => by rw [c3] at g; exact absurd g (by decide)), Or.inr (Or.inl ⟨c3, a1, Or.inl b5, s + 6, by omega, c4, d3⟩)⟩
        · omega
      · rcases b6 with ⟨d1, d2⟩ | ⟨d1, d2, d3⟩ | ⟨d1, d2, d3, d4⟩
        · exact absurd d1 c1
        · omega
        · refine ⟨x1, y1, by omega, mk (by rw [c5]; exact kdOf_w ck) (fun g => by
          rw [c5] at g
          have g2 := (nI_eq (a := k) (b := 281) (by rcases ck.1 with q | q <;> omega) (by decide)).mp g
          have := V27_not ((ck.2 21 (by decide)).mp g2) c2
          omega), Or.inr (Or.inr (Or.inr (Or.inr ⟨a1, b5, d3, c3, V27 (gA MX 6) s e, e256 (fL (gA MX 6) s) (e - s), k, ?_, ck, c5, c4, d4⟩)))⟩
          exact ⟨fL (gA MX 6) s, e - s, by omega, c2, fun i hi => by
            have := isLt_v (a3.2.2.1 (s + i) (by omega) (by omega))
            exact ⟨this.1, this.2.1⟩, rfl, rfl⟩
    · exact absurd b4 (lt_dg a4)
  · rcases y5 with ⟨b1, b2, b3, b4⟩ | ⟨b1, b2, b3, b4, b5, b6, b7⟩ | ⟨b1, b2, b3, b4, b5, b6⟩ | ⟨b1, b2, b3, b4, b5, b6⟩
    · omega
    · exact absurd a4 b4
    · exact absurd a4 (lt_dg b4)
    · obtain rfl := a3.uniq b3
      have hadj : adj (gA MX 6) e := adj_run a3 a2 (fun _ => Or.inr)
      have mk : (256 ≤ gI MX' 386 ∧ ¬ gI MX' 386 = 259) → (gI MX' 386 = 281 → s + 3 ≤ e) → Beh L s MX' MY' := fun g g3 => ⟨e, x2, y2, x3, x4, fun _ => ⟨a2, by rw [hA6]; exact ⟨fun _ => hadj, fun _ => g⟩, g3⟩⟩
      rcases a5 with ⟨c1, c2, c3⟩ | ⟨c1, c2, c3, c4⟩ | ⟨c1, c2, c3, c4, c5⟩
      · rcases b6 with ⟨d1, d2⟩ | ⟨d1, _⟩ | ⟨d1, _⟩
        · exact ⟨x1, y1, by omega, mk (by rw [c2]; exact i258) (fun g => by rw [c2] at g; exact absurd g (by decide)), Or.inr (Or.inl ⟨c2, a1, Or.inr b5, s, a1, c3, d2⟩)⟩
        · exact absurd c1 d1
        · exact absurd c1 d1
      · rcases b6 with ⟨d1, d2⟩ | ⟨d1, d2, d3⟩ | ⟨d1, d2, d3⟩
        · exact absurd d1 c1
        · exact ⟨x1, y1, by omega, mk (by rw [c3]; exact i258) (fun g => by rw [c3] at g; exact absurd g (by decide)), Or.inr (Or.inl ⟨c3, a1, Or.inr b5, s + 4, by omega, c4, d3⟩)⟩
        · omega
      · rcases b6 with ⟨d1, d2⟩ | ⟨d1, d2, d3⟩ | ⟨d1, d2, d3, d4⟩
        · exact absurd d1 c1
        · omega
        · exact ⟨x1, y1, by omega, mk (by rw [c5]; exact i256) (fun g => by rw [c5] at g; exact absurd g (by decide)), Or.inr (Or.inr (Or.inl ⟨c5, a1, b5, d3, c3, V10 (gA MX 6) s e, V10_le a3, c4, d4⟩))⟩
end
section
/-! STEPS OF BOTH READERS: the state of reading, faults, tests of the token, skip and must, numbers -/
def FrY : Mem → Mem → Prop := Frm (fun j => (3 ≤ j ∧ j ≤ 6) ∨ j = 8 ∨ j = 9 ∨ j = 12) noN (fun j => j = 7) noN
theorem FrY.r {M : Mem} : FrY M M := Frm.r
theorem FrY.i {M M' : Mem} {k : Nat} {v : Int32} (h : FrY M M') (hk : (3 ≤ k ∧ k ≤ 6) ∨ k = 8 ∨ k = 9 ∨ k = 12) : FrY M (sI M' k v) := Frm.sI h hk
theorem FrY.tr {M M' M2 : Mem} (h : FrY M M') (h2 : FrY M' M2) : FrY M M2 := Frm.tr h h2
theorem FrA.Y {M M' : Mem} (h : FrA M M') : FrY M M' := Frm.wk h (fun k hk => by omega) (fun _ h => h) (fun _ h => h) (fun _ h => h)
theorem FI.wk {a b a' b' : Nat} {M M' : Mem} (h : FI a b M M') (h1 : a' ≤ a) (h2 : b ≤ b') : FI a' b' M M' := ⟨h.1, fun j hj => h.2 j (by omega)⟩
def PR (L s : Nat) (MX MY : Mem) : Prop := Lex0 L MX MY ∧ TokR L s MX MY ∧ gI MX 391 = 0 ∧ gI MX 392 = -1 ∧ gI MY 8 = 0 ∧ gI MY 9 = -1
def Flt (MX MY : Mem) : Prop := ∃ k, 1 ≤ k ∧ k ≤ 6 ∧ gI MX 391 = nI k ∧ gI MY 8 = nI k ∧ gI MY 9 = gI MX 392
theorem Flt.mk {k : Nat} {p : Int32} {MX MY : Mem} (h1 : 1 ≤ k) (h6 : k ≤ 6) : Flt (sI (sI MX 391 (nI k)) 392 p) (sI (sI MY 8 (nI k)) 9 p) := ⟨k, h1, h6, by rw [gI_ne (by decide), gI_at], by rw [gI_ne (by decide), gI_at], by rw [gI_at, gI_at]⟩
theorem Flt.pos {MX MY : Mem} (h : Flt MX MY) : ¬ gI MY 8 ≤ 0 := by
  obtain ⟨k, h1, h6, _, e, _⟩ := h
  rw [e]
  exact nI_nle h1 (by omega)
theorem pos_ne {x : Int32} (h : ¬ x ≤ 0) : ¬ x = 0 := fun e => h (by rw [e]; decide)
theorem PR.cong {L s : Nat} {MX MY MX' MY' : Mem} (h : PR L s MX MY) (h1 : ∀ j, 386 ≤ j → j ≤ 392 → gI MX' j = gI MX j) (h2 : gI MX' 641 = gI MX 641) (h3 : gA MX' 4 = gA MX 4) (h4 : gA MX' 6 = gA MX 6) (h5 : ∀ j, j ≤ 12 → gI MY' j = gI MY j) (h6 : gL MY' 7 = gL MY 7) (h7 : gA MY' 1 = gA MY 1) : PR L s MX' MY' := by
  unfold PR Lex0 TokR Beh at h ⊢
  rw [h2, h3, h4, h6, h7, h1 386 (by decide) (by decide), h1 387 (by decide) (by decide), h1 388 (by decide) (by decide), h1 389 (by decide) (by decide), h1 390 (by decide) (by decide), h1 391 (by decide) (by decide), h1 392 (by decide) (by decide), h5 2 (by decide), h5 3 (by decide), h5 4 (by decide), h5 5 (by decide), h5 6 (by decide), h5 8 (by decide), h5 9 (by decide), h5 12 (by decide)]
  exact h
theorem PR.adv3 {n0 L s : Nat} {MX MY : Mem} (hn : 1601 ≤ n0) (h : PR L s MX MY) (hs : s < L) : ∃ MX' MY' s', fX8_advance n0 MX = some MX' ∧ fX12_ahead n0 MY = some MY' ∧ s < s' ∧ PR L s' MX' MY' ∧ FI 386 390 MX MX' ∧ FrA MY MY' ∧ (gI MX 386 = 281 → s + 3 ≤ s') := by
  obtain ⟨h0, hT, f1, f2, f3, f4⟩ := h
  obtain ⟨t1, t2, t3, ⟨e, b1, b2, b3, b4, b5⟩, t5⟩ := hT
  obtain ⟨b6, b7, b8⟩ := b5 hs
  obtain ⟨MX', MY', s', ex, ey, hps, hT', fx, fy⟩ := adv2 hn h0 b4 b1 b2 b7
  refine ⟨MX', MY', s', ex, ey, by omega, ⟨?_, hT', ?_, ?_, ?_, ?_⟩, fx, fy, fun g => by have := b8 g; omega⟩
  · obtain ⟨c1, c2, c3, c4, c5, c6⟩ := h0
    refine ⟨(fx.2 641 (by omega)).trans c1, (fy.1 2 (by omega)).trans c2, c3, ?_, ?_, ?_⟩
    · rw [fy.2.1 1 id, fx.A]; exact c4
    · rw [fx.A]; exact c5
    · rw [fx.A]; exact c6
  · exact (fx.2 391 (by omega)).trans f1
  · exact (fx.2 392 (by omega)).trans f2
  · exact (fy.1 8 (by omega)).trans f3
  · exact (fy.1 9 (by omega)).trans f4
theorem PR.adv {n0 L s : Nat} {MX MY : Mem} (hn : 1601 ≤ n0) (h : PR L s MX MY) (hs : s < L) : ∃ MX' MY' s', fX8_advance n0 MX = some MX' ∧ fX12_ahead n0 MY = some MY' ∧ s < s' ∧ PR L s' MX' MY' ∧ FI 386 390 MX MX' ∧ FrA MY MY' := by
  obtain ⟨a, b, c, h1, h2, h3, h4, h5, h6, -⟩ := h.adv3 hn hs
  exact ⟨a, b, c, h1, h2, h3, h4, h5, h6⟩
-- faults
theorem xfail {n0 : Nat} {k p : Int32} {M : Mem} : fX8_fail n0 k p M = some (0, sI (sI M 391 k) 392 p) := rfl
theorem eq_b {α β : Type} {o : Option α} {k : α → Option β} {z : α} {r : Option β} (e : o = some z) (h : k z = r) : o.bind k = r := by rw [e]; exact h
theorem eq_t {ρ : Type} {c : Prop} [Decidable c] {a b r : ρ} (h : c) (h1 : a = r) : (if c then a else b) = r := by rw [if_pos h]; exact h1
theorem eq_f {ρ : Type} {c : Prop} [Decidable c] {a b r : ρ} (h : ¬ c) (h1 : b = r) : (if c then a else b) = r := by rw [if_neg h]; exact h1
theorem eq_n {α β : Type} {v : α} {k : α → Option β} {r : Option β} (h : k v = r) : bnd v k = r := h
theorem xfailH {n0 : Nat} {M : Mem} : fX8_failHere n0 M = some (0, sI (sI M 391 1) 392 (gI M 388)) := by
  unfold fX8_failHere
  exact eq_b xfail (eq_t (Or.inl rfl) rfl)
theorem yblame0 {n0 : Nat} {k p : Int32} {M : Mem} (h : gI M 8 = 0) : fX12_blame n0 k p M = some (sI (sI M 8 k) 9 p) := by
  unfold fX12_blame
  rw [h, if_pos (by decide)]
  rfl
theorem yblame1 {n0 : Nat} {k p : Int32} {M : Mem} (h : ¬ gI M 8 ≤ 0) : fX12_blame n0 k p M = some M := by
  unfold fX12_blame
  rw [if_neg h]
theorem ylexF {n0 : Nat} {M : Mem} (h : ¬ gI M 8 ≤ 0) : fX12_lex n0 M = some M := by
  unfold fX12_lex
  rw [yblame1 h]
  by_cases e : gI M 12 = -1
  · rw [if_pos e]
  · rw [if_neg e]; rfl
theorem nI_m1 {q : Nat} (h : q < 2 ^ 31) : ¬ nI q = -1 := fun e => by
  have := nI_pos (n := q) h
  rw [e] at this
  exact this (by decide)
theorem KR.bad {kd pl va sg lx vy : Int32} {wd : Int64} {L s : Nat} (h : KR kd pl va sg lx vy wd L s) (hk : kd = 258) : s < L ∧ ∃ q, q < L ∧ pl = nI q ∧ lx = nI q := by
  rcases h with h | h | h | h | h
  · rw [hk] at h; exact absurd h.1 (by decide)
  · exact ⟨h.2.1, h.2.2.2⟩
  · rw [hk] at h; exact absurd h.1 (by decide)
  · rw [hk] at h; exact absurd h.1.2 (by decide)
  · obtain ⟨_, _, _, _, v, w, k, _, hd, e, _⟩ := h
    rw [hk] at e
    have := (nI_eq (a := 258) (b := k) (by decide) (by rcases hd.1 with q | q <;> omega)).mp e
    rcases hd.1 with q | q <;> omega
theorem KR.good {kd pl va sg lx vy : Int32} {wd : Int64} {L s : Nat} (h : KR kd pl va sg lx vy wd L s) (hk : ¬ kd = 258) : lx = -1 ∧ pl = nI s := by
  rcases h with h | h | h | h | h
  · exact ⟨h.2.2.2.1, h.2.2.2.2⟩
  · exact absurd h.1 hk
  · exact ⟨h.2.2.2.1, h.2.2.2.2.1⟩
  · exact ⟨h.2.2.2.1, h.2.2.2.2.1⟩
  · exact ⟨h.2.2.1, h.2.2.2.1⟩
theorem ylexB {n0 L s : Nat} {MX MY : Mem} (h : PR L s MX MY) (hk : gI MX 386 = 258) : fX12_lex n0 MY = some (sI (sI MY 8 1) 9 (gI MX 388)) := by
  obtain ⟨h0, hT, _, _, f3, _⟩ := h
  obtain ⟨_, q, hq, e1, e2⟩ := hT.2.2.2.2.bad hk
  have := h0.2.2.1
  unfold fX12_lex
  rw [e2, if_neg (nI_m1 (by omega)), yblame0 f3, e1]
  rfl
theorem ylexG {n0 L s : Nat} {MX MY : Mem} (h : PR L s MX MY) (hk : ¬ gI MX 386 = 258) : fX12_lex n0 MY = some MY := by
  unfold fX12_lex
  rw [(h.2.1.2.2.2.2.good hk).1, if_pos rfl]
theorem PR.pl {L s : Nat} {MX MY : Mem} (h : PR L s MX MY) (hk : ¬ gI MX 386 = 258) : gI MX 388 = nI s := (h.2.1.2.2.2.2.good hk).2
theorem PR.at_ {L s : Nat} {MX MY : Mem} (h : PR L s MX MY) : gI MY 4 = nI s := h.2.1.2.1
theorem PR.st {L s : Nat} {MX MY : Mem} (h : PR L s MX MY) : gI MX 387 = nI s := h.2.1.1
theorem PR.f8 {L s : Nat} {MX MY : Mem} (h : PR L s MX MY) : gI MY 8 = 0 := h.2.2.2.2.1
theorem PR.L16 {L s : Nat} {MX MY : Mem} (h : PR L s MX MY) : L ≤ 1600 := h.1.2.2.1
theorem i00 : (0 : Int32) ≤ 0 := by decide
-- tests of the token
theorem KR.lt {kd pl va sg lx vy : Int32} {wd : Int64} {L s : Nat} (h : KR kd pl va sg lx vy wd L s) (hk : ¬ kd = 259) : s < L := by
  rcases h with h | h | h | h | h
  · exact absurd h.1 hk
  · exact h.2.1
  · exact h.2.1
  · exact h.2.1
  · exact h.1
theorem kdn {k : Nat} {v : Nat} (hd : kdOf v k) : ¬ (0 ≤ nI k ∧ nI k ≤ 255) := fun g => by
  have h1 : 257 ≤ k ∧ k ≤ 284 := by rcases hd.1 with q | q <;> omega
  have := (nI_leI (a := k) (b := 255) (by omega) (by decide)).mp g.2
  omega
theorem ySign {n0 L s : Nat} {MX MY : Mem} {c : Int32} (hc : 0 ≤ c ∧ c ≤ 255) (h : PR L s MX MY) : fX12_isSign n0 c MY = some (bI (gI MX 386 = c), MY) := by
  have hK := h.2.1.2.2.2.2
  unfold fX12_isSign
  have no : ¬ gI MY 3 = 3 → ¬ gI MX 386 = c → (if gI MY 3 = 3 then (if gI MY 6 = c then some ((1 : Int32), MY) else some (0, MY)) else some (0, MY)) = some (bI (gI MX 386 = c), MY) := fun a b => by rw [if_neg a, bI_f b]
  rcases hK with q | q | q | q | q
  · refine no (by rw [q.2.2.1]; decide) (fun e => ?_)
    rw [← e, q.1] at hc
    exact absurd hc.2 (by decide)
  · refine no (by rcases q.2.2.1 with g | g <;> rw [g] <;> decide) (fun e => ?_)
    rw [← e, q.1] at hc
    exact absurd hc.2 (by decide)
  · refine no (by rw [q.2.2.1]; decide) (fun e => ?_)
    rw [← e, q.1] at hc
    exact absurd hc.2 (by decide)
  · rw [if_pos q.2.2.1, q.2.2.2.2.2]
    by_cases e : gI MX 386 = c
    · rw [if_pos e, bI_t e]
    · rw [if_neg e, bI_f e]
  · refine no (by rw [q.2.1]; decide) (fun e => ?_)
    obtain ⟨_, _, _, _, v, w, k, _, hd, e1, _⟩ := q
    rw [← e, e1] at hc
    exact kdn hd hc
theorem yWord {n0 L s i : Nat} {MX MY : Mem} {y : Int64} {kk : Int32} (hi : i < 25) (hy : y = lN (ownL i)) (hk : kk = nI (260 + i)) (h : PR L s MX MY) (hb : ¬ gI MX 386 = 258) : fX12_isWord n0 y MY = some (bI (gI MX 386 = kk), MY) := by
  have hK := h.2.1.2.2.2.2
  subst hy hk
  unfold fX12_isWord
  have big : ¬ (nI (260 + i) = 259) ∧ ¬ (nI (260 + i) = 256) ∧ ¬ (nI (260 + i) ≤ 255) := ⟨fun e => by
    have := (nI_eq (a := 260 + i) (b := 259) (by omega) (by decide)).mp e
    omega, fun e => by
    have := (nI_eq (a := 260 + i) (b := 256) (by omega) (by decide)).mp e
    omega, fun e => by
    have := (nI_leI (a := 260 + i) (b := 255) (by omega) (by decide)).mp e
    omega⟩
  have no : ¬ gI MY 3 = 1 → ¬ gI MX 386 = nI (260 + i) → (if gI MY 3 = 1 then (if lg_cmp (gL MY 7) (lN (ownL i)) = 0 then some ((1 : Int32), MY) else some (0, MY)) else some (0, MY)) = some (bI (gI MX 386 = nI (260 + i)), MY) := fun a b => by rw [if_neg a, bI_f b]
  rcases hK with q | q | q | q | q
  · refine no (by rw [q.2.2.1]; decide) (fun e => ?_)
    rw [q.1] at e
    exact big.1 e.symm
  · exact absurd q.1 hb
  · refine no (by rw [q.2.2.1]; decide) (fun e => ?_)
    rw [q.1] at e
    exact big.2.1 e.symm
  · refine no (by rw [q.2.2.1]; decide) (fun e => ?_)
    have := q.1.2
    rw [e] at this
    exact big.2.2 this
  · obtain ⟨_, h3, _, _, v, w, k, hw, hd, e1, _, e3⟩ := q
    rw [if_pos h3, e3, e1]
    have hk2 : k < 2 ^ 31 := by rcases hd.1 with q | q <;> omega
    by_cases e : k = 260 + i
    · have hv := (hd.2 i hi).mp e
      rw [if_pos (cmp0.mpr ((pk_lEQ (Nat.lt_trans hw.w_lt (by decide)) (Nat.lt_trans (own_WR hi).w_lt (by decide))).mpr ((hw.iff (own_WR hi)).mp hv))), bI_t (by rw [e])]
    · rw [if_neg (fun g => e ((hd.2 i hi).mpr ((hw.iff (own_WR hi)).mpr ((pk_lEQ (Nat.lt_trans hw.w_lt (by decide)) (Nat.lt_trans (own_WR hi).w_lt (by decide))).mp (cmp0.mp g))))), bI_f (fun g => e ((nI_eq hk2 (by omega)).mp g))]
-- skip and must
def Out (L s : Nat) (MX MY : Mem) (FX FY : Mem → Mem → Prop) (rx : Option (Int32 × Mem)) (ry : Option Mem) : Prop :=
  (∃ MX' MY' s', rx = some (1, MX') ∧ ry = some MY' ∧ s < s' ∧ PR L s' MX' MY' ∧ FX MX MX' ∧ FY MY MY') ∨ (∃ MX' MY', rx = some (0, MX') ∧ ry = some MY' ∧ Flt MX' MY' ∧ FX MX MX' ∧ FY MY MY')
theorem FIf {M : Mem} {k p : Int32} : FI 386 392 M (sI (sI M 391 k) 392 p) := (FI.r.s (by decide) (by decide)).s (by decide) (by decide)
theorem FYf {M : Mem} {k p : Int32} : FrY M (sI (sI M 8 k) 9 p) := (FrY.r.i (by decide)).i (by decide)
theorem g8f {M : Mem} {k p : Int32} : gI (sI (sI M 8 k) 9 p) 8 = k := by rw [gI_ne (by decide), gI_at]
theorem bz {p : Prop} [Decidable p] (h : p) : ¬ bI p = 0 := fun q => bI_0.mp q h
theorem ymu {n0 : Nat} {M : Mem} (h : ¬ gI M 8 = 0) : fX12_must_21 n0 M = some M := by
  unfold fX12_must_21
  exact eq_f h rfl
theorem ymu2 {n0 : Nat} {M : Mem} (h : ¬ gI M 8 = 0) : fX12_must__29 n0 M = some M := by
  unfold fX12_must__29
  exact eq_f h rfl
theorem ySign2 {n0 : Nat} {c : Int32} {M : Mem} : fX12_isSign n0 c M = some (0, M) ∨ fX12_isSign n0 c M = some (1, M) := by
  unfold fX12_isSign
  by_cases g : gI M 3 = 3
  · by_cases g2 : gI M 6 = c
    · exact Or.inr (eq_t g (eq_t g2 rfl))
    · exact Or.inl (eq_t g (eq_f g2 rfl))
  · exact Or.inl (eq_f g rfl)
theorem ymustSF {n0 : Nat} {c : Int32} {M : Mem} (h : ¬ gI M 8 ≤ 0) : fX12_must n0 c M = some M := by
  unfold fX12_must
  refine eq_b (ylexF h) ?_
  rcases ySign2 (n0 := n0) (c := c) (M := M) with q | q
  · exact eq_b q (eq_t rfl (eq_b (yblame1 h) (ymu (pos_ne h))))
  · exact eq_b q (eq_f i10 (ymu (pos_ne h)))
theorem ymustF {n0 : Nat} {y : Int64} {M : Mem} (h : ¬ gI M 8 ≤ 0) : fX12_must_ n0 y M = some M := by
  unfold fX12_must_
  exact eq_b (ylexF h) (eq_f h rfl)
theorem n8f {M : Mem} {k : Nat} {p : Int32} (h1 : 1 ≤ k) (h6 : k ≤ 6) : ¬ gI (sI (sI M 8 (nI k)) 9 p) 8 ≤ 0 := by
  rw [g8f]
  exact nI_nle h1 (by omega)
theorem xskF {n0 : Nat} {c : Int32} {M : Mem} (hk : ¬ gI M 386 = c) : fX8_skip n0 c M = some (0, sI (sI M 391 1) 392 (gI M 388)) := by
  unfold fX8_skip
  exact eq_f hk (eq_b xfailH (eq_t (Or.inl rfl) rfl))
theorem skS {n0 L s : Nat} {MX MY : Mem} {c : Int32} (hn : 1601 ≤ n0) (hc : 0 ≤ c ∧ c ≤ 255) (h : PR L s MX MY) : Out L s MX MY (FI 386 392) FrY (fX8_skip n0 c MX) (fX12_must n0 c MY) := by
  by_cases hk : gI MX 386 = c
  · have h8 : ¬ gI MX 386 = 258 := fun e => by
      rw [← hk, e] at hc
      exact absurd hc.2 (by decide)
    have h9 : ¬ gI MX 386 = 259 := fun e => by
      rw [← hk, e] at hc
      exact absurd hc.2 (by decide)
    obtain ⟨MX', MY', s', ex, ey, hs, hP, fx, fy⟩ := h.adv hn (h.2.1.2.2.2.2.lt h9)
    refine Or.inl ⟨MX', MY', s', ?_, ?_, hs, hP, fx.wk (by decide) (by decide), fy.Y⟩
    · unfold fX8_skip
      exact eq_t hk (eq_b ex rfl)
    · unfold fX12_must
      refine eq_b (ylexG h h8) (eq_b (ySign hc h) (eq_f (bz hk) ?_))
      unfold fX12_must_21
      exact eq_t h.f8 (eq_b ey rfl)
  · refine Or.inr ⟨sI (sI MX 391 1) 392 (gI MX 388), sI (sI MY 8 1) 9 (gI MX 388), xskF hk, ?_, Flt.mk (k := 1) (by decide) (by decide), FIf, FYf⟩
    have h1 : ¬ gI (sI (sI MY 8 1) 9 (gI MX 388)) 8 ≤ 0 := n8f (k := 1) (by decide) (by decide)
    by_cases h8 : gI MX 386 = 258
    · unfold fX12_must
      refine eq_b (ylexB h h8) ?_
      rcases ySign2 (n0 := n0) (c := c) (M := sI (sI MY 8 1) 9 (gI MX 388)) with q | q
      · exact eq_b q (eq_t rfl (eq_b (yblame1 h1) (ymu (pos_ne h1))))
      · exact eq_b q (eq_f i10 (ymu (pos_ne h1)))
    · unfold fX12_must
      refine eq_b (ylexG h h8) (eq_b (ySign hc h) (eq_t (bI_f hk) (eq_b (yblame0 h.f8) ?_)))
      rw [show gI (bI (gI MX 386 = c), MY).2 4 = gI MX 388 from h.at_.trans (h.pl h8).symm]
      exact ymu (pos_ne h1)
theorem skW {n0 L s i : Nat} {MX MY : Mem} {y : Int64} {kk : Int32} (hn : 1601 ≤ n0) (hi : i < 25) (hy : y = lN (ownL i)) (hkk : kk = nI (260 + i)) (h : PR L s MX MY) : Out L s MX MY (FI 386 392) FrY (fX8_skip n0 kk MX) (fX12_must_ n0 y MY) := by
  by_cases hk : gI MX 386 = kk
  · have n258 : ¬ kk = 258 := fun e => by
      rw [hkk] at e
      have := (nI_eq (a := 260 + i) (b := 258) (by omega) (by decide)).mp e
      omega
    have n259 : ¬ kk = 259 := fun e => by
      rw [hkk] at e
      have := (nI_eq (a := 260 + i) (b := 259) (by omega) (by decide)).mp e
      omega
    have h8 : ¬ gI MX 386 = 258 := by rw [hk]; exact n258
    have h9 : ¬ gI MX 386 = 259 := by rw [hk]; exact n259
    obtain ⟨MX', MY', s', ex, ey, hs, hP, fx, fy⟩ := h.adv hn (h.2.1.2.2.2.2.lt h9)
    refine Or.inl ⟨MX', MY', s', ?_, ?_, hs, hP, fx.wk (by decide) (by decide), fy.Y⟩
    · unfold fX8_skip
      exact eq_t hk (eq_b ex rfl)
    · unfold fX12_must_
      refine eq_b (ylexG h h8) (eq_t (by rw [h.f8]; exact i00) (eq_b (yWord hi hy hkk h h8) (eq_f (bz hk) ?_)))
      unfold fX12_must__29
      exact eq_t h.f8 (eq_b ey rfl)
  · refine Or.inr ⟨sI (sI MX 391 1) 392 (gI MX 388), sI (sI MY 8 1) 9 (gI MX 388), xskF hk, ?_, Flt.mk (k := 1) (by decide) (by decide), FIf, FYf⟩
    have h1 : ¬ gI (sI (sI MY 8 1) 9 (gI MX 388)) 8 ≤ 0 := n8f (k := 1) (by decide) (by decide)
    unfold fX12_must_
    by_cases h8 : gI MX 386 = 258
    · exact eq_b (ylexB h h8) (eq_f h1 rfl)
    · refine eq_b (ylexG h h8) (eq_t (by rw [h.f8]; exact i00) (eq_b (yWord hi hy hkk h h8) (eq_t (bI_f hk) (eq_b (yblame0 h.f8) ?_))))
      rw [show gI (bI (gI MX 386 = kk), MY).2 4 = gI MX 388 from h.at_.trans (h.pl h8).symm]
      exact ymu2 (pos_ne h1)
end
section
/-! STEPS OF BOTH READERS: numbers, names -/
theorem KR.sg2 {kd pl va sg lx vy : Int32} {wd : Int64} {L s : Nat} (h : KR kd pl va sg lx vy wd L s) (hk : ¬ kd = 258) : (sg = 2 ↔ kd = 256) ∧ (kd = 256 → ∃ v, v ≤ 9999 ∧ va = nI v ∧ vy = nI v) := by
  rcases h with h | h | h | h | h
  · rw [h.1, h.2.2.1]; exact ⟨by decide, fun e => absurd e (by decide)⟩
  · exact absurd h.1 hk
  · rw [h.1, h.2.2.1]; exact ⟨by decide, fun _ => h.2.2.2.2.2⟩
  · have : ¬ kd = 256 := fun e => by
      have := h.1.2
      rw [e] at this
      exact absurd this (by decide)
    rw [h.2.2.1]
    exact ⟨⟨fun e => absurd e (by decide), fun e => absurd e this⟩, fun e => absurd e this⟩
  · obtain ⟨_, h3, _, _, v, w, k, _, hd, e1, _⟩ := h
    have : ¬ kd = 256 := fun e => by
      rw [e1] at e
      have := (nI_eq (a := k) (b := 256) (by rcases hd.1 with q | q <;> omega) (by decide)).mp e
      rcases hd.1 with q | q <;> omega
    rw [h3]
    exact ⟨⟨fun e => absurd e (by decide), fun e => absurd e this⟩, fun e => absurd e this⟩
def OutN (L s : Nat) (lo hi : Int32) (MX MY : Mem) (FX FY : Mem → Mem → Prop) (rx ry : Option (Int32 × Mem)) : Prop :=
  (∃ v MX' MY' s', v ≤ 9999 ∧ lo ≤ nI v ∧ nI v ≤ hi ∧ rx = some (nI v, MX') ∧ ry = some (nI v, MY') ∧ s < s' ∧ PR L s' MX' MY' ∧ FX MX MX' ∧ FY MY MY') ∨ (∃ MX' MY' u, rx = some (-1, MX') ∧ ry = some (u, MY') ∧ Flt MX' MY' ∧ FX MX MX' ∧ FY MY MY')
theorem ynumF {n0 : Nat} {lo hi : Int32} {M : Mem} (h : ¬ gI M 8 ≤ 0) : fX12_number n0 lo hi M = some (0, M) := by
  unfold fX12_number
  exact eq_b (ylexF h) (eq_f h rfl)
theorem y58F {n0 : Nat} {M : Mem} (h : ¬ gI M 8 = 0) : fX12_number_58 n0 M = some (gI M 6, M) := by
  unfold fX12_number_58
  exact eq_n (eq_f h rfl)
theorem y30F {n0 : Nat} {lo hi : Int32} {M : Mem} (h : ¬ gI M 8 = 0) : fX12_number_30 n0 lo hi M = some (gI M 6, M) := by
  unfold fX12_number_30
  exact eq_f h (y58F h)
theorem numP {n0 L s : Nat} {lo hi : Int32} {MX MY : Mem} (hn : 1601 ≤ n0) (h : PR L s MX MY) : OutN L s lo hi MX MY (FI 386 392) FrY (fX4_number n0 lo hi MX) (fX12_number n0 lo hi MY) := by
  have e8 : gI MY 8 ≤ 0 := by rw [h.f8]; exact i00
  by_cases hb : gI MX 386 = 258
  · refine Or.inr ⟨sI (sI MX 391 1) 392 (gI MX 388), sI (sI MY 8 1) 9 (gI MX 388), 0, ?_, ?_, Flt.mk (k := 1) (by decide) (by decide), FIf, FYf⟩
    · unfold fX4_number
      exact eq_n (eq_f (by rw [hb]; decide) (eq_b xfailH rfl))
    · unfold fX12_number
      exact eq_b (ylexB h hb) (eq_f (n8f (k := 1) (by decide) (by decide)) rfl)
  have hK := h.2.1.2.2.2.2.sg2 hb
  by_cases hk : gI MX 386 = 256
  · obtain ⟨v, hv, ex, ey⟩ := hK.2 hk
    have hs : s < L := h.2.1.2.2.2.2.lt (by rw [hk]; decide)
    by_cases hr : lo ≤ nI v ∧ nI v ≤ hi
    · obtain ⟨MX', MY', s', ax, ay, hs, hP, fx, fy⟩ := h.adv hn hs
      refine Or.inl ⟨v, MX', MY', s', hv, hr.1, hr.2, ?_, ?_, hs, hP, fx.wk (by decide) (by decide), fy.Y⟩
      · unfold fX4_number
        rw [ex]
        exact eq_n (eq_t hk (eq_f (Int32.not_lt.mpr hr.1) (eq_t hr.2 (eq_b ax rfl))))
      · unfold fX12_number fX12_number_30 fX12_number_58 fX12_is
        rw [← ey]
        rw [← ey] at hr
        exact eq_b (ylexG h hb) (eq_t e8 (eq_t (hK.1.mpr hk) (eq_t h.f8 (eq_b (z := (1, MY)) (eq_f (Int32.not_lt.mpr hr.1) (eq_f (Int32.not_lt.mpr hr.2) rfl)) (eq_f i10 (eq_n (eq_t h.f8 (eq_b ay rfl))))))))
    · refine Or.inr ⟨sI (sI MX 391 4) 392 (nI s), sI (sI MY 8 4) 9 (nI s), gI MY 6, ?_, ?_, Flt.mk (k := 4) (by decide) (by decide), FIf, FYf⟩
      · unfold fX4_number fX4_number_41
        rw [ex, h.st]
        by_cases h1 : nI v < lo
        · exact eq_n (eq_t hk (eq_t h1 (eq_b xfail rfl)))
        · exact eq_n (eq_t hk (eq_f h1 (eq_f (fun g => hr ⟨Int32.not_lt.mp h1, g⟩) (eq_b xfail rfl))))
      · have h5 : fX12_is n0 (gI MY 6) lo hi MY = some (0, MY) := by
          unfold fX12_is
          rw [ey]
          by_cases h1 : nI v < lo
          · exact eq_t h1 rfl
          · exact eq_f h1 (eq_t (Int32.not_le.mp (fun g => hr ⟨Int32.not_lt.mp h1, g⟩)) rfl)
        unfold fX12_number fX12_number_30
        refine eq_b (ylexG h hb) (eq_t e8 (eq_t (hK.1.mpr hk) (eq_t h.f8 (eq_b h5 (eq_t rfl (eq_b (yblame0 h.f8) ?_))))))
        show fX12_number_58 n0 (sI (sI MY 8 4) 9 (gI MY 4)) = _
        rw [h.at_, y58F (by rw [g8f]; decide)]
        rfl
  · refine Or.inr ⟨sI (sI MX 391 1) 392 (gI MX 388), sI (sI MY 8 1) 9 (gI MX 388), gI MY 6, ?_, ?_, Flt.mk (k := 1) (by decide) (by decide), FIf, FYf⟩
    · unfold fX4_number
      exact eq_n (eq_f hk (eq_b xfailH rfl))
    · unfold fX12_number
      refine eq_b (ylexG h hb) (eq_t e8 (eq_f (fun g => hk (hK.1.mp g)) (eq_b (yblame0 h.f8) ?_)))
      rw [h.at_, h.pl hb, y30F (by rw [g8f]; decide)]
      rfl
theorem yOwn {n0 : Nat} {y : Int64} {M : Mem} : ∃ u, fX12_isOwn n0 y M = some (u, M) ∧ ((u = 0 ∧ ∀ i, i < 25 → ¬ y = lN (ownL i)) ∨ (u = 1 ∧ ∃ i, i < 25 ∧ y = lN (ownL i))) := by
  unfold fX12_isOwn
  by_cases h0 : y = lN (ownL 0)
  · exact ⟨1, eq_t (cmp0.mpr h0) rfl, Or.inr ⟨rfl, 0, by decide, h0⟩⟩
  by_cases h1 : y = lN (ownL 1)
  · exact ⟨1, eq_f (fun q => h0 (cmp0.mp q)) (eq_t (cmp0.mpr h1) rfl), Or.inr ⟨rfl, 1, by decide, h1⟩⟩
  by_cases h2 : y = lN (ownL 2)
  · exact ⟨1, eq_f (fun q => h0 (cmp0.mp q)) (eq_f (fun q => h1 (cmp0.mp q)) (eq_t (cmp0.mpr h2) rfl)), Or.inr ⟨rfl, 2, by decide, h2⟩⟩
  by_cases h3 : y = lN (ownL 3)
  · exact ⟨1, eq_f (fun q => h0 (cmp0.mp q)) (eq_f (fun q => h1 (cmp0.mp q)) (eq_f (fun q => h2 (cmp0.mp q)) (eq_t (cmp0.mpr h3) rfl))), Or.inr ⟨rfl, 3, by decide, h3⟩⟩
  by_cases h4 : y = lN (ownL 4)
  · exact ⟨1, eq_f (fun q => h0 (cmp0.mp q)) (eq_f (fun q => h1 (cmp0.mp q)) (eq_f (fun q => h2 (cmp0.mp q)) (eq_f (fun q => h3 (cmp0.mp q)) (eq_t (cmp0.mpr h4) rfl)))), Or.inr ⟨rfl, 4, by decide, h4⟩⟩
  by_cases h5 : y = lN (ownL 5)
  · exact ⟨1, eq_f (fun q => h0 (cmp0.mp q)) (eq_f (fun q => h1 (cmp0.mp q)) (eq_f (fun q => h2 (cmp0.mp q)) (eq_f (fun q => h3 (cmp0.mp q)) (eq_f (fun q => h4 (cmp0.mp q)) (eq_t (cmp0.mpr h5) rfl))))), Or.inr ⟨rfl, 5, by decide, h5⟩⟩
  by_cases h6 : y = lN (ownL 6)
  · exact ⟨1, eq_f (fun q => h0 (cmp0.mp q)) (eq_f (fun q => h1 (cmp0.mp q)) (eq_f (fun q => h2 (cmp0.mp q)) (eq_f (fun q => h3 (cmp0.mp q)) (eq_f (fun q => h4 (cmp0.mp q)) (eq_f (fun q => h5 (cmp0.mp q)) (eq_t (cmp0.mpr h6) rfl)))))), Or.inr ⟨rfl, 6, by decide, h6⟩⟩
  by_cases h7 : y = lN (ownL 7)
  · exact ⟨1, eq_f (fun q => h0 (cmp0.mp q)) (eq_f (fun q => h1 (cmp0.mp q)) (eq_f (fun q => h2 (cmp0.mp q)) (eq_f (fun q => h3 (cmp0.mp q)) (eq_f (fun q => h4 (cmp0.mp q)) (eq_f (fun q => h5 (cmp0.mp q)) (eq_f (fun q => h6 (cmp0.mp q)) (eq_t (cmp0.mpr h7) rfl))))))), Or.inr ⟨rfl, 7, by decide, h7⟩⟩
  by_cases h8 : y = lN (ownL 8)
  · exact ⟨1, eq_f (fun q => h0 (cmp0.mp q)) (eq_f (fun q => h1 (cmp0.mp q)) (eq_f (fun q => h2 (cmp0.mp q)) (eq_f (fun q => h3 (cmp0.mp q)) (eq_f (fun q => h4 (cmp0.mp q)) (eq_f (fun q => h5 (cmp0.mp q)) (eq_f (fun q => h6 (cmp0.mp q)) (eq_f (fun q => h7 (cmp0.mp q)) (eq_t (cmp0.mpr h8) rfl)))))))), Or.inr ⟨rfl, 8, by decide, h8⟩⟩
  by_cases h9 : y = lN (ownL 9)
  · exact ⟨1, eq_f (fun q => h0 (cmp0.mp q)) (eq_f (fun q => h1 (cmp0.mp q)) (eq_f (fun q => h2 (cmp0.mp q)) (eq_f (fun q => h3 (cmp0.mp q)) (eq_f (fun q => h4 (cmp0.mp q)) (eq_f (fun q => h5 (cmp0.mp q)) (eq_f (fun q => h6 (cmp0.mp q)) (eq_f (fun q => h7 (cmp0.mp q)) (eq_f (fun q => h8 (cmp0.mp q)) (eq_t (cmp0.mpr h9) rfl))))))))), Or.inr ⟨rfl, 9, by decide, h9⟩⟩
  by_cases h10 : y = lN (ownL 10)
  · exact ⟨1, eq_f (fun q => h0 (cmp0.mp q)) (eq_f (fun q => h1 (cmp0.mp q)) (eq_f (fun q => h2 (cmp0.mp q)) (eq_f (fun q => h3 (cmp0.mp q)) (eq_f (fun q => h4 (cmp0.mp q)) (eq_f (fun q => h5 (cmp0.mp q)) (eq_f (fun q => h6 (cmp0.mp q)) (eq_f (fun q => h7 (cmp0.mp q)) (eq_f (fun q => h8 (cmp0.mp q)) (eq_f (fun q => h9 (cmp0.mp q)) (eq_t (cmp0.mpr h10) rfl)))))))))), Or.inr ⟨rfl, 10, by decide, h10⟩⟩
  by_cases h11 : y = lN (ownL 11)
  · exact ⟨1, eq_f (fun q => h0 (cmp0.mp q)) (eq_f (fun q => h1 (cmp0.mp q)) (eq_f (fun q => h2 (cmp0.mp q)) (eq_f (fun q => h3 (cmp0.mp q)) (eq_f (fun q => h4 (cmp0.mp q)) (eq_f (fun q => h5 (cmp0.mp q)) (eq_f (fun q => h6 (cmp0.mp q)) (eq_f (fun q => h7 (cmp0.mp q)) (eq_f (fun q => h8 (cmp0.mp q)) (eq_f (fun q => h9 (cmp0.mp q)) (eq_f (fun q => h10 (cmp0.mp q)) (eq_t (cmp0.mpr h11) rfl))))))))))), Or.inr ⟨rfl, 11, by decide, h11⟩⟩
  by_cases h12 : y = lN (ownL 12)
  · exact ⟨1, eq_f (fun q => h0 (cmp0.mp q)) (eq_f (fun q => h1 (cmp0.mp q)) (eq_f (fun q => h2 (cmp0.mp q)) (eq_f (fun q => h3 (cmp0.mp q)) (eq_f (fun q => h4 (cmp0.mp q)) (eq_f (fun q => h5 (cmp0.mp q)) (eq_f (fun q => h6 (cmp0.mp q)) (eq_f (fun q => h7 (cmp0.mp q)) (eq_f (fun q => h8 (cmp0.mp q)) (eq_f (fun q => h9 (cmp0.mp q)) (eq_f (fun q => h10 (cmp0.mp q)) (eq_f (fun q => h11 (cmp0.mp q)) (eq_t (cmp0.mpr h12) rfl)))))))))))), Or.inr ⟨rfl, 12, by decide, h12⟩⟩
  by_cases h13 : y = lN (ownL 13)
  · exact ⟨1, eq_f (fun q => h0 (cmp0.mp q)) (eq_f (fun q => h1 (cmp0.mp q)) (eq_f (fun q => h2 (cmp0.mp q)) (eq_f (fun q => h3 (cmp0.mp q)) (eq_f (fun q => h4 (cmp0.mp q)) (eq_f (fun q => h5 (cmp0.mp q)) (eq_f (fun q => h6 (cmp0.mp q)) (eq_f (fun q => h7 (cmp0.mp q)) (eq_f (fun q => h8 (cmp0.mp q)) (eq_f (fun q => h9 (cmp0.mp q)) (eq_f (fun q => h10 (cmp0.mp q)) (eq_f (fun q => h11 (cmp0.mp q)) (eq_f (fun q => h12 (cmp0.mp q)) (eq_t (cmp0.mpr h13) rfl))))))))))))), Or.inr ⟨rfl, 13, by decide, h13⟩⟩
  by_cases h14 : y = lN (ownL 14)
  · exact ⟨1, eq_f (fun q => h0 (cmp0.mp q)) (eq_f (fun q => h1 (cmp0.mp q)) (eq_f (fun q => h2 (cmp0.mp q)) (eq_f (fun q => h3 (cmp0.mp q)) (eq_f (fun q => h4 (cmp0.mp q)) (eq_f (fun q => h5 (cmp0.mp q)) (eq_f (fun q => h6 (cmp0.mp q)) (eq_f (fun q => h7 (cmp0.mp q)) (eq_f (fun q => h8 (cmp0.mp q)) (eq_f (fun q => h9 (cmp0.mp q)) (eq_f (fun q => h10 (cmp0.mp q)) (eq_f (fun q => h11 (cmp0.mp q)) (eq_f (fun q => h12 (cmp0.mp q)) (eq_f (fun q => h13 (cmp0.mp q)) (eq_t (cmp0.mpr h14) rfl)))))))))))))), Or.inr ⟨rfl, 14, by decide, h14⟩⟩
  by_cases h15 : y = lN (ownL 15)
  · exact ⟨1, eq_f (fun q => h0 (cmp0.mp q)) (eq_f (fun q => h1 (cmp0.mp q)) (eq_f (fun q => h2 (cmp0.mp q)) (eq_f (fun q => h3 (cmp0.mp q)) (eq_f (fun q => h4 (cmp0.mp q)) (eq_f (fun q => h5 (cmp0.mp q)) (eq_f (fun q => h6 (cmp0.mp q)) (eq_f (fun q => h7 (cmp0.mp q)) (eq_f (fun q => h8 (cmp0.mp q)) (eq_f (fun q => h9 (cmp0.mp q)) (eq_f (fun q => h10 (cmp0.mp q)) (eq_f (fun q => h11 (cmp0.mp q)) (eq_f (fun q => h12 (cmp0.mp q)) (eq_f (fun q => h13 (cmp0.mp q)) (eq_f (fun q => h14 (cmp0.mp q)) (eq_t (cmp0.mpr h15) rfl))))))))))))))), Or.inr ⟨rfl, 15, by decide, h15⟩⟩
  by_cases h16 : y = lN (ownL 16)
  · exact ⟨1, eq_f (fun q => h0 (cmp0.mp q)) (eq_f (fun q => h1 (cmp0.mp q)) (eq_f (fun q => h2 (cmp0.mp q)) (eq_f (fun q => h3 (cmp0.mp q)) (eq_f (fun q => h4 (cmp0.mp q)) (eq_f (fun q => h5 (cmp0.mp q)) (eq_f (fun q => h6 (cmp0.mp q)) (eq_f (fun q => h7 (cmp0.mp q)) (eq_f (fun q => h8 (cmp0.mp q)) (eq_f (fun q => h9 (cmp0.mp q)) (eq_f (fun q => h10 (cmp0.mp q)) (eq_f (fun q => h11 (cmp0.mp q)) (eq_f (fun q => h12 (cmp0.mp q)) (eq_f (fun q => h13 (cmp0.mp q)) (eq_f (fun q => h14 (cmp0.mp q)) (eq_f (fun q => h15 (cmp0.mp q)) (eq_t (cmp0.mpr h16) rfl)))))))))))))))), Or.inr ⟨rfl, 16, by decide, h16⟩⟩
  by_cases h17 : y = lN (ownL 17)
  · exact ⟨1, eq_f (fun q => h0 (cmp0.mp q)) (eq_f (fun q => h1 (cmp0.mp q)) (eq_f (fun q => h2 (cmp0.mp q)) (eq_f (fun q => h3 (cmp0.mp q)) (eq_f (fun q => h4 (cmp0.mp q)) (eq_f (fun q => h5 (cmp0.mp q)) (eq_f (fun q => h6 (cmp0.mp q)) (eq_f (fun q => h7 (cmp0.mp q)) (eq_f (fun q => h8 (cmp0.mp q)) (eq_f (fun q => h9 (cmp0.mp q)) (eq_f (fun q => h10 (cmp0.mp q)) (eq_f (fun q => h11 (cmp0.mp q)) (eq_f (fun q => h12 (cmp0.mp q)) (eq_f (fun q => h13 (cmp0.mp q)) (eq_f (fun q => h14 (cmp0.mp q)) (eq_f (fun q => h15 (cmp0.mp q)) (eq_f (fun q => h16 (cmp0.mp q)) (eq_t (cmp0.mpr h17) rfl))))))))))))))))), Or.inr ⟨rfl, 17, by decide, h17⟩⟩
  by_cases h18 : y = lN (ownL 18)
  · exact ⟨1, eq_f (fun q => h0 (cmp0.mp q)) (eq_f (fun q => h1 (cmp0.mp q)) (eq_f (fun q => h2 (cmp0.mp q)) (eq_f (fun q => h3 (cmp0.mp q)) (eq_f (fun q => h4 (cmp0.mp q)) (eq_f (fun q => h5 (cmp0.mp q)) (eq_f (fun q => h6 (cmp0.mp q)) (eq_f (fun q => h7 (cmp0.mp q)) (eq_f (fun q => h8 (cmp0.mp q)) (eq_f (fun q => h9 (cmp0.mp q)) (eq_f (fun q => h10 (cmp0.mp q)) (eq_f (fun q => h11 (cmp0.mp q)) (eq_f (fun q => h12 (cmp0.mp q)) (eq_f (fun q => h13 (cmp0.mp q)) (eq_f (fun q => h14 (cmp0.mp q)) (eq_f (fun q => h15 (cmp0.mp q)) (eq_f (fun q => h16 (cmp0.mp q)) (eq_f (fun q => h17 (cmp0.mp q)) (eq_t (cmp0.mpr h18) rfl)))))))))))))))))), Or.inr ⟨rfl, 18, by decide, h18⟩⟩
  by_cases h19 : y = lN (ownL 19)
  · exact ⟨1, eq_f (fun q => h0 (cmp0.mp q)) (eq_f (fun q => h1 (cmp0.mp q)) (eq_f (fun q => h2 (cmp0.mp q)) (eq_f (fun q => h3 (cmp0.mp q)) (eq_f (fun q => h4 (cmp0.mp q)) (eq_f (fun q => h5 (cmp0.mp q)) (eq_f (fun q => h6 (cmp0.mp q)) (eq_f (fun q => h7 (cmp0.mp q)) (eq_f (fun q => h8 (cmp0.mp q)) (eq_f (fun q => h9 (cmp0.mp q)) (eq_f (fun q => h10 (cmp0.mp q)) (eq_f (fun q => h11 (cmp0.mp q)) (eq_f (fun q => h12 (cmp0.mp q)) (eq_f (fun q => h13 (cmp0.mp q)) (eq_f (fun q => h14 (cmp0.mp q)) (eq_f (fun q => h15 (cmp0.mp q)) (eq_f (fun q => h16 (cmp0.mp q)) (eq_f (fun q => h17 (cmp0.mp q)) (eq_f (fun q => h18 (cmp0.mp q)) (eq_t (cmp0.mpr h19) rfl))))))))))))))))))), Or.inr ⟨rfl, 19, by decide, h19⟩⟩
  by_cases h20 : y = lN (ownL 20)
  · exact ⟨1, eq_f (fun q => h0 (cmp0.mp q)) (eq_f (fun q => h1 (cmp0.mp q)) (eq_f (fun q => h2 (cmp0.mp q)) (eq_f (fun q => h3 (cmp0.mp q)) (eq_f (fun q => h4 (cmp0.mp q)) (eq_f (fun q => h5 (cmp0.mp q)) (eq_f (fun q => h6 (cmp0.mp q)) (eq_f (fun q => h7 (cmp0.mp q)) (eq_f (fun q => h8 (cmp0.mp q)) (eq_f (fun q => h9 (cmp0.mp q)) (eq_f (fun q => h10 (cmp0.mp q)) (eq_f (fun q => h11 (cmp0.mp q)) (eq_f (fun q => h12 (cmp0.mp q)) (eq_f (fun q => h13 (cmp0.mp q)) (eq_f (fun q => h14 (cmp0.mp q)) (eq_f (fun q => h15 (cmp0.mp q)) (eq_f (fun q => h16 (cmp0.mp q)) (eq_f (fun q => h17 (cmp0.mp q)) (eq_f (fun q => h18 (cmp0.mp q)) (eq_f (fun q => h19 (cmp0.mp q)) (eq_t (cmp0.mpr h20) rfl)))))))))))))))))))), Or.inr ⟨rfl, 20, by decide, h20⟩⟩
  by_cases h21 : y = lN (ownL 21)
  · exact ⟨1, eq_f (fun q => h0 (cmp0.mp q)) (eq_f (fun q => h1 (cmp0.mp q)) (eq_f (fun q => h2 (cmp0.mp q)) (eq_f (fun q => h3 (cmp0.mp q)) (eq_f (fun q => h4 (cmp0.mp q)) (eq_f (fun q => h5 (cmp0.mp q)) (eq_f (fun q => h6 (cmp0.mp q)) (eq_f (fun q => h7 (cmp0.mp q)) (eq_f (fun q => h8 (cmp0.mp q)) (eq_f (fun q => h9 (cmp0.mp q)) (eq_f (fun q => h10 (cmp0.mp q)) (eq_f (fun q => h11 (cmp0.mp q)) (eq_f (fun q => h12 (cmp0.mp q)) (eq_f (fun q => h13 (cmp0.mp q)) (eq_f (fun q => h14 (cmp0.mp q)) (eq_f (fun q => h15 (cmp0.mp q)) (eq_f (fun q => h16 (cmp0.mp q)) (eq_f (fun q => h17 (cmp0.mp q)) (eq_f (fun q => h18 (cmp0.mp q)) (eq_f (fun q => h19 (cmp0.mp q)) (eq_f (fun q => h20 (cmp0.mp q)) (eq_t (cmp0.mpr h21) rfl))))))))))))))))))))), Or.inr ⟨rfl, 21, by decide, h21⟩⟩
  by_cases h22 : y = lN (ownL 22)
  · exact ⟨1, eq_f (fun q => h0 (cmp0.mp q)) (eq_f (fun q => h1 (cmp0.mp q)) (eq_f (fun q => h2 (cmp0.mp q)) (eq_f (fun q => h3 (cmp0.mp q)) (eq_f (fun q => h4 (cmp0.mp q)) (eq_f (fun q => h5 (cmp0.mp q)) (eq_f (fun q => h6 (cmp0.mp q)) (eq_f (fun q => h7 (cmp0.mp q)) (eq_f (fun q => h8 (cmp0.mp q)) (eq_f (fun q => h9 (cmp0.mp q)) (eq_f (fun q => h10 (cmp0.mp q)) (eq_f (fun q => h11 (cmp0.mp q)) (eq_f (fun q => h12 (cmp0.mp q)) (eq_f (fun q => h13 (cmp0.mp q)) (eq_f (fun q => h14 (cmp0.mp q)) (eq_f (fun q => h15 (cmp0.mp q)) (eq_f (fun q => h16 (cmp0.mp q)) (eq_f (fun q => h17 (cmp0.mp q)) (eq_f (fun q => h18 (cmp0.mp q)) (eq_f (fun q => h19 (cmp0.mp q)) (eq_f (fun q => h20 (cmp0.mp q)) (eq_f (fun q => h21 (cmp0.mp q)) (eq_t (cmp0.mpr h22) rfl)))))))))))))))))))))), Or.inr ⟨rfl, 22, by decide, h22⟩⟩
  by_cases h23 : y = lN (ownL 23)
  · exact ⟨1, eq_f (fun q => h0 (cmp0.mp q)) (eq_f (fun q => h1 (cmp0.mp q)) (eq_f (fun q => h2 (cmp0.mp q)) (eq_f (fun q => h3 (cmp0.mp q)) (eq_f (fun q => h4 (cmp0.mp q)) (eq_f (fun q => h5 (cmp0.mp q)) (eq_f (fun q => h6 (cmp0.mp q)) (eq_f (fun q => h7 (cmp0.mp q)) (eq_f (fun q => h8 (cmp0.mp q)) (eq_f (fun q => h9 (cmp0.mp q)) (eq_f (fun q => h10 (cmp0.mp q)) (eq_f (fun q => h11 (cmp0.mp q)) (eq_f (fun q => h12 (cmp0.mp q)) (eq_f (fun q => h13 (cmp0.mp q)) (eq_f (fun q => h14 (cmp0.mp q)) (eq_f (fun q => h15 (cmp0.mp q)) (eq_f (fun q => h16 (cmp0.mp q)) (eq_f (fun q => h17 (cmp0.mp q)) (eq_f (fun q => h18 (cmp0.mp q)) (eq_f (fun q => h19 (cmp0.mp q)) (eq_f (fun q => h20 (cmp0.mp q)) (eq_f (fun q => h21 (cmp0.mp q)) (eq_f (fun q => h22 (cmp0.mp q)) (eq_t (cmp0.mpr h23) rfl))))))))))))))))))))))), Or.inr ⟨rfl, 23, by decide, h23⟩⟩
  by_cases h24 : y = lN (ownL 24)
  · exact ⟨1, eq_f (fun q => h0 (cmp0.mp q)) (eq_f (fun q => h1 (cmp0.mp q)) (eq_f (fun q => h2 (cmp0.mp q)) (eq_f (fun q => h3 (cmp0.mp q)) (eq_f (fun q => h4 (cmp0.mp q)) (eq_f (fun q => h5 (cmp0.mp q)) (eq_f (fun q => h6 (cmp0.mp q)) (eq_f (fun q => h7 (cmp0.mp q)) (eq_f (fun q => h8 (cmp0.mp q)) (eq_f (fun q => h9 (cmp0.mp q)) (eq_f (fun q => h10 (cmp0.mp q)) (eq_f (fun q => h11 (cmp0.mp q)) (eq_f (fun q => h12 (cmp0.mp q)) (eq_f (fun q => h13 (cmp0.mp q)) (eq_f (fun q => h14 (cmp0.mp q)) (eq_f (fun q => h15 (cmp0.mp q)) (eq_f (fun q => h16 (cmp0.mp q)) (eq_f (fun q => h17 (cmp0.mp q)) (eq_f (fun q => h18 (cmp0.mp q)) (eq_f (fun q => h19 (cmp0.mp q)) (eq_f (fun q => h20 (cmp0.mp q)) (eq_f (fun q => h21 (cmp0.mp q)) (eq_f (fun q => h22 (cmp0.mp q)) (eq_f (fun q => h23 (cmp0.mp q)) (eq_t (cmp0.mpr h24) rfl)))))))))))))))))))))))), Or.inr ⟨rfl, 24, by decide, h24⟩⟩
  refine ⟨0, eq_f (fun q => h0 (cmp0.mp q)) (eq_f (fun q => h1 (cmp0.mp q)) (eq_f (fun q => h2 (cmp0.mp q)) (eq_f (fun q => h3 (cmp0.mp q)) (eq_f (fun q => h4 (cmp0.mp q)) (eq_f (fun q => h5 (cmp0.mp q)) (eq_f (fun q => h6 (cmp0.mp q)) (eq_f (fun q => h7 (cmp0.mp q)) (eq_f (fun q => h8 (cmp0.mp q)) (eq_f (fun q => h9 (cmp0.mp q)) (eq_f (fun q => h10 (cmp0.mp q)) (eq_f (fun q => h11 (cmp0.mp q)) (eq_f (fun q => h12 (cmp0.mp q)) (eq_f (fun q => h13 (cmp0.mp q)) (eq_f (fun q => h14 (cmp0.mp q)) (eq_f (fun q => h15 (cmp0.mp q)) (eq_f (fun q => h16 (cmp0.mp q)) (eq_f (fun q => h17 (cmp0.mp q)) (eq_f (fun q => h18 (cmp0.mp q)) (eq_f (fun q => h19 (cmp0.mp q)) (eq_f (fun q => h20 (cmp0.mp q)) (eq_f (fun q => h21 (cmp0.mp q)) (eq_f (fun q => h22 (cmp0.mp q)) (eq_f (fun q => h23 (cmp0.mp q)) (eq_f (fun q => h24 (cmp0.mp q)) (rfl))))))))))))))))))))))))), Or.inl ⟨rfl, fun i hi => ?_⟩⟩
  have hh : i = 0 ∨ i = 1 ∨ i = 2 ∨ i = 3 ∨ i = 4 ∨ i = 5 ∨ i = 6 ∨ i = 7 ∨ i = 8 ∨ i = 9 ∨ i = 10 ∨ i = 11 ∨ i = 12 ∨ i = 13 ∨ i = 14 ∨ i = 15 ∨ i = 16 ∨ i = 17 ∨ i = 18 ∨ i = 19 ∨ i = 20 ∨ i = 21 ∨ i = 22 ∨ i = 23 ∨ i = 24 := by omega
  rcases hh with rfl | rfl | rfl | rfl | rfl | rfl | rfl | rfl | rfl | rfl | rfl | rfl | rfl | rfl | rfl | rfl | rfl | rfl | rfl | rfl | rfl | rfl | rfl | rfl | rfl
  · exact h0
  · exact h1
  · exact h2
  · exact h3
  · exact h4
  · exact h5
  · exact h6
  · exact h7
  · exact h8
  · exact h9
  · exact h10
  · exact h11
  · exact h12
  · exact h13
  · exact h14
  · exact h15
  · exact h16
  · exact h17
  · exact h18
  · exact h19
  · exact h20
  · exact h21
  · exact h22
  · exact h23
  · exact h24
/-- names of one sort on both sides -/
def NmS (cap n : Nat) (xs : Nat → Int32) (ys : Nat → Int64) : Prop := n ≤ cap ∧ ∀ i, i < n → ∃ v w, WR v w ∧ xs i = nI v ∧ ys i = lN w
theorem find2 {n0 qa n cap v w : Nat} {sort : Int32} {ys : Nat → Int64} {MX MY : Mem} (hw : WR v w) (hcap : LX.ln qa = cap) (hc6 : cap ≤ 6) (hN : NmS cap n (gA MX qa) ys) (hM : fX12_manyOf n0 (gI MY 34) sort MY = some (nI n, MY)) (hNm : ∀ i, i < n → fX12_nameOf n0 (gI MY 34) sort (nI i) MY = some (ys i, MY)) : ∀ (u j : Nat), j ≤ n → n < u + j → (∀ i, i < j → ¬ gA MX qa i = nI v) → ∃ r, loopN (bX9_find_2 n0 qa) (fun _ _ _ _ => none) u (nI n) (nI v) (nI j) MX = some (r, MX) ∧ loopN (bX12_named_3 n0) (fun _ _ _ _ => none) u sort (lN w) (nI j) MY = some (r, MY) ∧ ((r = -1 ∧ ∀ i, i < n → ¬ gA MX qa i = nI v) ∨ ∃ i, i < n ∧ r = nI i) := by
  intro u
  have hn := hN.1
  induction u with
  | zero => intro j _ h; omega
  | succ u ih =>
    intro j hj hu hne
    rw [lpS, lpS, bX9_find_2, bX12_named_3]
    by_cases h : n ≤ j
    · exact ⟨-1, eq_t (nI_le h (by omega)) rfl, eq_b hM (eq_t (nI_le h (by omega)) rfl), Or.inl ⟨rfl, fun i hi => hne i (by omega)⟩⟩
    · have g1 : ¬ nI n ≤ nI j := nI_ge (by omega) (by omega)
      have g2 : ¬ Int32.ofNat (LX.ln qa) ≤ nI j := by rw [hcap]; exact nI_ge (b := cap) (by omega) (by omega)
      have g3 : ¬ oob (nI j) (LX.ln qa) := by rw [hcap]; exact nI_in (by omega) (by omega)
      have hcl : (nI j).toNatClampNeg = j := nI_clamp (by omega)
      obtain ⟨v', w', hw', ex, ey⟩ := hN.2 j (by omega)
      by_cases e : gA MX qa j = nI v
      · refine ⟨nI j, eq_f g1 (eq_f g2 (eq_f g3 (eq_t (by rw [hcl]; exact e) rfl))), eq_b hM (eq_f g1 (eq_b (hNm j (by omega)) (eq_t ?_ rfl))), Or.inr ⟨j, by omega, rfl⟩⟩
        show lg_cmp (ys j) (lN w) = 0
        rw [ex] at e
        rw [ey, cmp0]
        exact (hw'.nI hw).mp e
      · obtain ⟨r, r1, r2, r3⟩ := ih (j + 1) (by omega) (by omega) (fun i hi => by
          by_cases q : i = j
          · rw [q]; exact e
          · exact hne i (by omega))
        refine ⟨r, eq_f g1 (eq_f g2 (eq_f g3 (eq_f (by rw [hcl]; exact e) (by rw [nI_1]; exact r1)))), eq_b hM (eq_f g1 (eq_b (hNm j (by omega)) (eq_f ?_ (by rw [nI_1]; exact r2)))), r3⟩
        show ¬ lg_cmp (ys j) (lN w) = 0
        rw [ex] at e
        rw [ey, cmp0]
        exact fun g => e ((hw'.nI hw).mpr g)
end
