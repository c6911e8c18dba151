/-! THE NEXT WORD, NUMBER OR SIGN, as the class reads it: advance -/
def adj (t : Nat → Int32) (s : Nat) : Prop := 0 < s ∧ (isLt (t (s - 1)) ∨ isDg (t (s - 1)))
theorem adj_iff {t : Nat → Int32} {L p s : Nat} {F : Prop} (hs : SkB t L p s) (hB : F ↔ adj t p) : adj t s ↔ (F ∧ p = s) := by
  by_cases h : p = s
  · subst h
    exact ⟨fun g => ⟨hB.mpr g, rfl⟩, fun g => hB.mp g.1⟩
  · refine ⟨fun g => ?_, fun g => absurd g.2 h⟩
    have h1 := hs.1
    have h2 := hs.2.2.1 (s - 1) (by omega) (by omega)
    rcases g.2 with q | q
    · exact absurd h2 (lt_blk q)
    · exact absurd h2 (dg_blk q)
def TokX (t : Nat → Int32) (L s e : Nat) (M' : Mem) : Prop :=
  gI M' 387 = nI s ∧ gI M' 390 = nI e ∧ s ≤ e ∧ e ≤ L ∧
  ((s = L ∧ e = s ∧ gI M' 386 = 259 ∧ gI M' 388 = nI s) ∨
   (s < L ∧ e = s + 1 ∧ ¬ isLt (t s) ∧ ¬ isDg (t s) ∧ gI M' 386 = t s ∧ gI M' 388 = nI s) ∨
   (s < L ∧ s < e ∧ RnB isLt t L s e ∧ isLt (t s) ∧ ((adj t s ∧ gI M' 386 = 258 ∧ gI M' 388 = nI s) ∨ (¬ adj t s ∧ 6 < e - s ∧ gI M' 386 = 258 ∧ gI M' 388 = nI (s + 6)) ∨ (¬ adj t s ∧ e - s ≤ 6 ∧ gI M' 388 = nI s ∧ gI M' 389 = nI (V27 t s e) ∧ ∃ k, kdOf (V27 t s e) k ∧ gI M' 386 = nI k))) ∨
   (s < L ∧ s < e ∧ RnB isDg t L s e ∧ isDg (t s) ∧ ((adj t s ∧ gI M' 386 = 258 ∧ gI M' 388 = nI s) ∨ (¬ adj t s ∧ 4 < e - s ∧ gI M' 386 = 258 ∧ gI M' 388 = nI (s + 4)) ∨ (¬ adj t s ∧ e - s ≤ 4 ∧ gI M' 388 = nI s ∧ gI M' 389 = nI (V10 t s e) ∧ gI M' 386 = 256))))
/-- only ints a .. b are other than before -/
def FI (a b : Nat) (M M' : Mem) : Prop := M'.2 = M.2 ∧ ∀ j, (j < a ∨ b < j) → gI M' j = gI M j
theorem FI.r {a b : Nat} {M : Mem} : FI a b M M := ⟨rfl, fun _ _ => rfl⟩
theorem FI.s {a b k : Nat} {v : Int32} {M M' : Mem} (h : FI a b M M') (h1 : a ≤ k) (h2 : k ≤ b) : FI a b M (sI M' k v) := ⟨h.1, fun j hj => by rw [gI_ne (by omega)]; exact h.2 j hj⟩
theorem FI.tr {a b : Nat} {M M' M2 : Mem} (h : FI a b M M') (h2 : FI a b M' M2) : FI a b M M2 := ⟨h2.1.trans h.1, fun j hj => (h2.2 j hj).trans (h.2 j hj)⟩
theorem FI.A {a b : Nat} {M M' : Mem} (h : FI a b M M') : gA M' = gA M := by
  show M'.2.1 = M.2.1
  rw [h.1]
theorem FI.R {a b : Nat} {M M' : Mem} (h : FI a b M M') : gR M' = gR M := by
  show M'.2.2.1 = M.2.2.1
  rw [h.1]
theorem xwon {n0 : Nat} {M : Mem} : fX8_isWordOrNumber n0 M = some (bI (256 ≤ gI M 386 ∧ ¬ gI M 386 = 259), M) := by
  unfold fX8_isWordOrNumber
  by_cases h1 : gI M 386 < 256
  · rw [if_pos h1, bI_f (fun h => absurd h.1 (Int32.not_le.mpr h1))]
  · by_cases h2 : gI M 386 = 259
    · rw [if_neg h1, if_pos h2, bI_f (fun h => h.2 h2)]
    · rw [if_neg h1, if_neg h2, bI_t ⟨Int32.not_lt.mp h1, h2⟩]
theorem xadv100 {n0 p s : Nat} {F : Prop} [Decidable F] {M : Mem} {Q : Mem → Prop} (hp : p < 2 ^ 31) (hs' : s < 2 ^ 31) (hs : gI M 387 = nI s) (h1 : (F ∧ p = s) → (256 ≤ gI M 386 ∧ ¬ gI M 386 = 259) → Q (sI (sI M 386 258) 388 (nI s))) (h2 : ¬ (F ∧ p = s) ∨ ¬ (256 ≤ gI M 386 ∧ ¬ gI M 386 = 259) → Q M) : okP (fX8_advance_100 n0 (bI F) (nI p) M) Q := by
  unfold fX8_advance_100
  by_cases hF : F
  · refine okP_f (fun q => bI_0.mp q hF) ?_
    rw [hs]
    by_cases e : s = p
    · refine okP_t (by rw [e]) (okP_be xwon ?_)
      by_cases hk : 256 ≤ gI M 386 ∧ ¬ gI M 386 = 259
      · refine okP_f (fun q => bI_0.mp q hk) (okP_bnd (okP_some ?_))
        rw [gI_ne (by decide), hs]
        exact h1 ⟨hF, e.symm⟩ hk
      · exact okP_t (bI_f hk) (okP_some (h2 (Or.inr hk)))
    · exact okP_f (fun q => e ((nI_eq hs' hp).mp q)) (okP_some (h2 (Or.inl (fun g => e g.2.symm))))
  · exact okP_t (bI_f hF) (okP_some (h2 (Or.inl (fun g => hF g.1))))
theorem i256 : (256 : Int32) ≤ 256 ∧ ¬ (256 : Int32) = 259 := by decide
theorem i258 : (256 : Int32) ≤ 258 ∧ ¬ (258 : Int32) = 259 := by decide
theorem kdOf_w {v k : Nat} (h : kdOf v k) : (256 : Int32) ≤ nI k ∧ ¬ nI k = 259 := by
  have h1 : 257 ≤ k ∧ k ≤ 284 ∧ k ≠ 259 := by rcases h.1 with h | h <;> omega
  exact ⟨nI_le (a := 256) (by omega) (by omega), fun e => h1.2.2 ((nI_eq (a := k) (b := 259) (by omega) (by decide)).mp e)⟩
/-- bytes -/
def Byt (t : Nat → Int32) (L : Nat) : Prop := ∀ i, i < L → 0 ≤ t i ∧ t i ≤ 255
theorem byt_sign {x : Int32} (h : 0 ≤ x ∧ x ≤ 255) : ¬ (256 ≤ x ∧ ¬ x = 259) := fun g => by
  have h1 := g.1
  have h2 := h.2
  rw [i_le] at h1 h2
  have a : (256 : Int32).toInt = 256 := by decide
  have b : (255 : Int32).toInt = 255 := by decide
  omega
theorem byt_m1 {x : Int32} (h : 0 ≤ x ∧ x ≤ 255) : ¬ x = -1 := fun g => by
  rw [g] at h
  exact absurd h (by decide)
theorem xadvance {n0 L p : Nat} {M : Mem} (hn : 1601 ≤ n0) (h16 : L ≤ 1600) (hL : gI M 641 = nI L) (hp : p ≤ L) (h390 : gI M 390 = nI p) (hB : (256 ≤ gI M 386 ∧ ¬ gI M 386 = 259) ↔ adj (gA M 6) p) (hby : Byt (gA M 6) L) (hO : ∀ i, i < 25 → gA M 4 i = nI (ownC i)) :
    okP (fX8_advance n0 M) (fun M' => (∃ s e, SkB (gA M 6) L p s ∧ TokX (gA M 6) L s e M') ∧ FI 386 390 M M') := by
  unfold fX8_advance
  refine okP_be xwon (okP_bnd (okP_bind (P := fun M' => ∃ s, SkB (gA M 6) L p s ∧ M' = sI M 390 (nI s)) ?_ ?_))
  · unfold fX8_skipBlanks
    refine okP_bnd ?_
    show okP (fX8_skipBlanks_5 n0 (gI M 390) M) _
    rw [h390]
    exact xskip h16 n0 p M hL hp h390 (by omega)
  intro z11 ⟨s, hs, hz⟩
  subst hz
  have hA := adj_iff hs hB
  refine okP_bnd (okP_bnd ?_)
  have e1 : gI (sI M 390 (nI s)) 390 = nI s := gI_at
  rw [e1]
  have e2 : gI (sI (sI M 390 (nI s)) 387 (nI s)) 390 = nI s := by rw [gI_ne (by decide), gI_at]
  rw [e2]
  have e3 : gI (sI (sI (sI M 390 (nI s)) 387 (nI s)) 388 (nI s)) 390 = nI s := by rw [gI_ne (by decide), gI_ne (by decide), gI_at]
  rw [e3]
  have hsl := hs.2.1
  have hN : FI 386 390 M (sI (sI (sI M 390 (nI s)) 387 (nI s)) 388 (nI s)) := ((FI.r.s (by decide) (by decide)).s (by decide) (by decide)).s (by decide) (by decide)
  have hN1 : gI (sI (sI (sI M 390 (nI s)) 387 (nI s)) 388 (nI s)) 641 = nI L := (hN.2 641 (by decide)).trans hL
  have hN2 : gI (sI (sI (sI M 390 (nI s)) 387 (nI s)) 388 (nI s)) 387 = nI s := by rw [gI_ne (by decide), gI_at]
  have hN3 : gI (sI (sI (sI M 390 (nI s)) 387 (nI s)) 388 (nI s)) 388 = nI s := gI_at
  show okP ((fX7_at n0 (nI s) (sI (sI (sI M 390 (nI s)) 387 (nI s)) 388 (nI s))).bind _) _
  have hN6 : gA (sI (sI (sI M 390 (nI s)) 387 (nI s)) 388 (nI s)) = gA M := hN.A
  generalize hMB : sI (sI (sI M 390 (nI s)) 387 (nI s)) 388 (nI s) = B at *
  show okP ((fX7_at n0 (nI s) B).bind fun z38 => (fX8_isLetter n0 z38.1 z38.2).bind fun z43 => if z43.1 = 0 then (fX8_isDigit n0 z38.1 z43.2).bind fun z57 => if z57.1 = 0 then if z38.1 = (-1 : Int32) then fX8_advance_100 n0 (bI (256 ≤ gI M 386 ∧ ¬ gI M 386 = 259)) (gI M 390) (sI z57.2 386 (259 : Int32)) else bnd (sI z57.2 386 z38.1) fun M87 => fX8_advance_100 n0 (bI (256 ≤ gI M 386 ∧ ¬ gI M 386 = 259)) (gI M 390) (sI M87 390 ((gI M87 390) + (1 : Int32))) else (fX8_readNumber n0 z57.2).bind fun z64 => fX8_advance_100 n0 (bI (256 ≤ gI M 386 ∧ ¬ gI M 386 = 259)) (gI M 390) z64 else (fX8_readWord n0 z43.2).bind fun z50 => fX8_advance_100 n0 (bI (256 ≤ gI M 386 ∧ ¬ gI M 386 = 259)) (gI M 390) z50) _
  rw [h390]
  by_cases hsL : s < L
  · refine okP_be (xat hN1 h16 hsL) (okP_be xlet ?_)
    rw [hN6]
    by_cases hl : isLt (gA M 6 s)
    · refine okP_f (fun q => bI_0.mp q hl) (okP_bind (xreadWord hn h16 hN1 hN2 e3 hsL (by rw [hN6]; exact hl) (fun i hi => by rw [hN6]; exact hO i hi)) ?_)
      rw [hN6]
      rintro z50 ⟨e, he, hse, ⟨h6, rfl⟩ | ⟨h6, k, hk, rfl⟩⟩
      · have hF : FI 386 390 M (sI (sI (sI B 390 (nI e)) 386 258) 388 (nI (s + 6))) := ((hN.s (by decide) (by decide)).s (by decide) (by decide)).s (by decide) (by decide)
        refine xadv100 (s := s) (by omega) (by omega) (by rw [gI_ne (by decide), gI_ne (by decide), gI_ne (by decide)]; exact hN2) (fun h1 _ => ⟨⟨s, e, hs, ?_⟩, (hF.s (by decide) (by decide)).s (by decide) (by decide)⟩) (fun h1 => ⟨⟨s, e, hs, ?_⟩, hF⟩)
        · exact ⟨by simp [gI_sI, hN2], by simp [gI_sI], by omega, he.2.1, Or.inr (Or.inr (Or.inl ⟨hsL, hse, he, hl, Or.inl ⟨hA.mpr h1, by simp [gI_sI], by simp [gI_sI]⟩⟩))⟩
        · refine ⟨by simp [gI_sI, hN2], by simp [gI_sI], by omega, he.2.1, Or.inr (Or.inr (Or.inl ⟨hsL, hse, he, hl, Or.inr (Or.inl ⟨fun g => ?_, h6, by simp [gI_sI], by simp [gI_sI]⟩)⟩))⟩
          rcases h1 with h1 | h1
          · exact h1 (hA.mp g)
          · exact h1 (by simp [gI_sI])
      · have hF : FI 386 390 M (sI (sI (sI B 390 (nI e)) 389 (nI (V27 (gA M 6) s e))) 386 (nI k)) := ((hN.s (by decide) (by decide)).s (by decide) (by decide)).s (by decide) (by decide)
        refine xadv100 (s := s) (by omega) (by omega) (by rw [gI_ne (by decide), gI_ne (by decide), gI_ne (by decide)]; exact hN2) (fun h1 _ => ⟨⟨s, e, hs, ?_⟩, (hF.s (by decide) (by decide)).s (by decide) (by decide)⟩) (fun h1 => ⟨⟨s, e, hs, ?_⟩, hF⟩)
        · exact ⟨by simp [gI_sI, hN2], by simp [gI_sI], by omega, he.2.1, Or.inr (Or.inr (Or.inl ⟨hsL, hse, he, hl, Or.inl ⟨hA.mpr h1, by simp [gI_sI], by simp [gI_sI]⟩⟩))⟩
        · refine ⟨by simp [gI_sI, hN2], by simp [gI_sI], by omega, he.2.1, Or.inr (Or.inr (Or.inl ⟨hsL, hse, he, hl, Or.inr (Or.inr ⟨fun g => ?_, h6, by simp [gI_sI, hN3], by simp [gI_sI], k, hk, by simp [gI_sI]⟩)⟩))⟩
          rcases h1 with h1 | h1
          · exact h1 (hA.mp g)
          · exact h1 (by rw [gI_at]; exact kdOf_w hk)
    · refine okP_t (bI_f hl) (okP_be xdig ?_)
      by_cases hd : isDg (gA M 6 s)
      · refine okP_f (fun q => bI_0.mp q hd) (okP_bind (xreadNum hn h16 hN1 hN2 e3 hsL (by rw [hN6]; exact hd)) ?_)
        rw [hN6]
        rintro z50 ⟨e, he, hse, ⟨h6, rfl⟩ | ⟨h6, rfl⟩⟩
        · have hF : FI 386 390 M (sI (sI (sI (sI (sI B 390 (nI e)) 389 (nI (V10 (gA M 6) s e))) 386 256) 386 258) 388 (nI (s + 4))) := ((((hN.s (by decide) (by decide)).s (by decide) (by decide)).s (by decide) (by decide)).s (by decide) (by decide)).s (by decide) (by decide)
          refine xadv100 (s := s) (by omega) (by omega) (by simp [gI_sI, hN2]) (fun h1 _ => ⟨⟨s, e, hs, ?_⟩, (hF.s (by decide) (by decide)).s (by decide) (by decide)⟩) (fun h1 => ⟨⟨s, e, hs, ?_⟩, hF⟩)
          · exact ⟨by simp [gI_sI, hN2], by simp [gI_sI], by omega, he.2.1, Or.inr (Or.inr (Or.inr ⟨hsL, hse, he, hd, Or.inl ⟨hA.mpr h1, by simp [gI_sI], by simp [gI_sI]⟩⟩))⟩
          · refine ⟨by simp [gI_sI, hN2], by simp [gI_sI], by omega, he.2.1, Or.inr (Or.inr (Or.inr ⟨hsL, hse, he, hd, Or.inr (Or.inl ⟨fun g => ?_, h6, by simp [gI_sI], by simp [gI_sI]⟩)⟩))⟩
            rcases h1 with h1 | h1
            · exact h1 (hA.mp g)
            · exact h1 (by simp [gI_sI])
        · have hF : FI 386 390 M (sI (sI (sI B 390 (nI e)) 389 (nI (V10 (gA M 6) s e))) 386 256) := ((hN.s (by decide) (by decide)).s (by decide) (by decide)).s (by decide) (by decide)
          refine xadv100 (s := s) (by omega) (by omega) (by simp [gI_sI, hN2]) (fun h1 _ => ⟨⟨s, e, hs, ?_⟩, (hF.s (by decide) (by decide)).s (by decide) (by decide)⟩) (fun h1 => ⟨⟨s, e, hs, ?_⟩, hF⟩)
          · exact ⟨by simp [gI_sI, hN2], by simp [gI_sI], by omega, he.2.1, Or.inr (Or.inr (Or.inr ⟨hsL, hse, he, hd, Or.inl ⟨hA.mpr h1, by simp [gI_sI], by simp [gI_sI]⟩⟩))⟩
          · refine ⟨by simp [gI_sI, hN2], by simp [gI_sI], by omega, he.2.1, Or.inr (Or.inr (Or.inr ⟨hsL, hse, he, hd, Or.inr (Or.inr ⟨fun g => ?_, h6, by simp [gI_sI, hN3], by simp [gI_sI], by simp [gI_sI]⟩)⟩))⟩
            rcases h1 with h1 | h1
            · exact h1 (hA.mp g)
            · exact h1 (by simp [gI_sI])
      · refine okP_t (bI_f hd) (okP_f (byt_m1 (hby s hsL)) (okP_bnd ?_))
        have e4 : gI (sI B 386 (gA M 6 s)) 390 + 1 = nI (s + 1) := by rw [gI_ne (by decide), e3, nI_1]
        show okP (fX8_advance_100 n0 _ (nI p) (sI (sI B 386 (gA M 6 s)) 390 (gI (sI B 386 (gA M 6 s)) 390 + 1))) _
        rw [e4]
        have hF : FI 386 390 M (sI (sI B 386 (gA M 6 s)) 390 (nI (s + 1))) := (hN.s (by decide) (by decide)).s (by decide) (by decide)
        refine xadv100 (s := s) (by omega) (by omega) (by simp [gI_sI, hN2]) (fun h1 h2 => ?_) (fun h1 => ⟨⟨s, s + 1, hs, ?_⟩, hF⟩)
        · rw [gI_ne (by decide), gI_at] at h2
          exact absurd h2 (byt_sign (hby s hsL))
        · exact ⟨by simp [gI_sI, hN2], by simp [gI_sI], by omega, by omega, Or.inr (Or.inl ⟨hsL, rfl, hl, hd, by simp [gI_sI], by simp [gI_sI, hN3]⟩)⟩
  · refine okP_be (xat_end hN1 (by omega) (by omega)) (okP_be xlet ?_)
    refine okP_t (bI_f (p := isLt (-1)) (by decide)) (okP_be xdig (okP_t (bI_f (p := isDg (-1)) (by decide)) (okP_t rfl ?_)))
    have hF : FI 386 390 M (sI B 386 259) := hN.s (by decide) (by decide)
    refine xadv100 (s := s) (by omega) (by omega) (by simp [gI_sI, hN2]) (fun h1 h2 => ?_) (fun h1 => ⟨⟨s, s, hs, ?_⟩, hF⟩)
    · rw [gI_at] at h2
      exact absurd rfl h2.2
    · exact ⟨by simp [gI_sI, hN2], by rw [gI_ne (by decide)]; exact e3, by omega, by omega, Or.inl ⟨by omega, rfl, by simp [gI_sI], by simp [gI_sI, hN3]⟩⟩
