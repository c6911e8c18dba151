/-! A STATEMENT -/
theorem eq_i {ρ : Type} {c : Prop} [Decidable c] {a b r : ρ} (h : c → a = r) (h1 : ¬ c → b = r) : (if c then a else b) = r := by
  by_cases g : c
  · rw [if_pos g]; exact h g
  · rw [if_neg g]; exact h1 g
theorem bind_id {α : Type} {o : Option α} : (o.bind fun z => some z) = o := by cases o <;> rfl
theorem StO.eq {L s q b : Nat} {MX MY : Mem} {rx rx' : Option (Int32 × Mem)} {ry ry' : Option Mem} (h : StO L s q b MX MY rx ry) (ex : rx' = rx) (ey : ry' = ry) : StO L s q b MX MY rx' ry' := by rw [ex, ey]; exact h
theorem full_nI {n m : Nat} (hn : n ≤ m) (hm : m < 2 ^ 31) {α : Type} {f : Int32 → α} : (if nI m ≤ nI n then f 0 else f 1) = f (bI (¬ n = m)) := by
  by_cases g : n = m
  · rw [if_pos (nI_le (by omega) (by omega)), bI_f (fun q => q g)]
  · rw [if_neg (nI_ge (by omega) hm), bI_t g]
theorem full_y {n m : Nat} (hn : n < 2 ^ 31) (hm : m < 2 ^ 31) {α : Type} {f : Int32 → α} : (if nI n = nI m then f 1 else f 0) = f (bI (n = m)) := by
  by_cases g : n = m
  · rw [if_pos (by rw [g]), bI_t g]
  · rw [if_neg (fun q => g ((nI_eq hn hm).mp q)), bI_f g]

theorem stmtP {n0 L s q b nt nc nd nr C : Nat} {MX MY : Mem} (hn : 1700 ≤ n0) (h : Rd L s q b nt nc nd nr C MX MY) (h9 : ¬ gI MX 386 = 259) : StO L s q b MX MY (fX4_readStatement n0 MX) (fX12_statement n0 MY) ∨ Odd q b MX MY (fX4_readStatement n0 MX) (fX12_statement n0 MY) := by
  have hA := h.2.1
  have hT := h.2.2.1
  have hb := hA.2.2.2
  have t6 := hT.1.1.2.2.1
  have c5 := hT.1.2.1.2.2.1
  have d6 := hT.1.2.2.2.2.1
  have r10 := hT.2.2.2.2.1.2.2.1
  have e8 : gI MY 8 ≤ 0 := by rw [h.1.f8]; exact i00
  have o2 : ¬ oob (gI MY 34) 2 := by rw [hA.2.2.1]; exact nI_in (by omega) (by decide)
  have c34 : (gI MY 34).toNatClampNeg = b := by rw [hA.2.2.1, nI_clamp (by omega)]
  by_cases h8 : gI MX 386 = 258
  · left; right
    refine ⟨sI (sI MX 391 1) 392 (gI MX 388), sI (sI MY 8 1) 9 (gI MX 388), ?_, ?_, Flt.mk (k := 1) (by decide) (by decide), FIf.q, FYf.b⟩
    · unfold fX4_readStatement fX4_readStatement_365
      exact eq_f (by rw [h8]; decide) (eq_f (by rw [h8]; decide) (eq_f (by rw [h8]; decide) (eq_f (by rw [h8]; decide) (eq_f (by rw [h8]; decide) (eq_f (by rw [h8]; decide) (eq_f (by rw [h8]; decide) (eq_f (by rw [h8]; decide) (eq_f (by rw [h8]; decide) (eq_f (by rw [h8]; decide) (eq_f (by rw [h8]; decide) (eq_f (by rw [h8]; decide) (eq_f (by rw [h8]; decide) (eq_f (by rw [h8]; decide) (eq_f (by rw [h8]; decide) (eq_b xfailH (eq_t (Or.inl rfl) rfl))))))))))))))))
    · unfold fX12_statement
      exact eq_b (ylexB h.1 h8) (eq_f (n8f (k := 1) (by decide) (by decide)) rfl)
  have w260 : fX12_isWord n0 499967946343 MY = some (bI (gI MX 386 = 260), MY) := yWord (i := 0) (by decide) (by decide) (by decide) h.1 h8
  have w263 : fX12_isWord n0 109330312357234 MY = some (bI (gI MX 386 = 263), MY) := yWord (i := 3) (by decide) (by decide) (by decide) h.1 h8
  have w264 : fX12_isWord n0 1919902052 MY = some (bI (gI MX 386 = 264), MY) := yWord (i := 4) (by decide) (by decide) (by decide) h.1 h8
  have w267 : fX12_isWord n0 1885432941 MY = some (bI (gI MX 386 = 267), MY) := yWord (i := 7) (by decide) (by decide) (by decide) h.1 h8
  have w269 : fX12_isWord n0 431365910119 MY = some (bI (gI MX 386 = 269), MY) := yWord (i := 9) (by decide) (by decide) (by decide) h.1 h8
  have w272 : fX12_isWord n0 1935767923 MY = some (bI (gI MX 386 = 272), MY) := yWord (i := 12) (by decide) (by decide) (by decide) h.1 h8
  have w273 : fX12_isWord n0 1735356005 MY = some (bI (gI MX 386 = 273), MY) := yWord (i := 13) (by decide) (by decide) (by decide) h.1 h8
  have w274 : fX12_isWord n0 1885434739 MY = some (bI (gI MX 386 = 274), MY) := yWord (i := 14) (by decide) (by decide) (by decide) h.1 h8
  by_cases hk260 : gI MX 386 = 260
  · have hk := hk260
    left
    refine (thingS (n0 := n0) (by omega) h hk).eq ?_ ?_
    · unfold fX4_readStatement
      refine eq_t hk ?_
      rw [hA.1, hT.1.1.1]
      exact full_nI (m := 6) (f := fun u => fX4_readStatement_98 n0 u MX) (by omega) (by decide)
    · unfold fX12_statement
      refine eq_b (ylexG h.1 h8) (eq_t e8 (eq_b w260 (eq_f (bz hk) ?_)))
      rw [bind_id]
      unfold fX12_thinging
      refine eq_f o2 ?_
      rw [c34, hT.1.1.2.1]
      exact full_y (n := nt) (m := 6) (f := fun u => fX12_thinging_20 n0 u MY) (by omega) (by decide)
  by_cases hk263 : gI MX 386 = 263
  · have hk := hk263
    left
    refine (cornerS (n0 := n0) (by omega) h hk).eq ?_ ?_
    · unfold fX4_readStatement
      refine eq_f (by rw [hk]; decide) (eq_f (by rw [hk]; decide) (eq_f (by rw [hk]; decide) (eq_t hk ?_)))
      rw [hA.1, hT.1.2.1.1]
      exact full_nI (m := 5) (f := fun u => fX4_readStatement_134 n0 u MX) (by omega) (by decide)
    · unfold fX12_statement
      refine eq_b (ylexG h.1 h8) (eq_t e8 (eq_b w260 (eq_t (bI_f (by rw [hk]; decide)) (eq_b w263 (eq_f (bz hk) ?_)))))
      rw [bind_id]
      unfold fX12_cornering
      refine eq_f o2 ?_
      rw [c34, hT.1.2.1.2.1]
      exact full_y (n := nc) (m := 5) (f := fun u => fX12_cornering_19 n0 u MY) (by omega) (by decide)
  by_cases hk264 : gI MX 386 = 264
  · have hk := hk264
    left
    refine (roadS (n0 := n0) (by omega) h hk).eq ?_ ?_
    · unfold fX4_readStatement
      refine eq_f (by rw [hk]; decide) (eq_f (by rw [hk]; decide) (eq_f (by rw [hk]; decide) (eq_f (by rw [hk]; decide) (eq_t hk ?_))))
      rw [hA.1, hT.2.2.2.2.1.1]
      exact full_nI (m := 10) (f := fun u => fX4_readStatement_171 n0 u MX) (by omega) (by decide)
    · unfold fX12_statement
      refine eq_b (ylexG h.1 h8) (eq_t e8 (eq_b w260 (eq_t (bI_f (by rw [hk]; decide)) (eq_b w263 (eq_t (bI_f (by rw [hk]; decide)) (eq_b w264 (eq_f (bz hk) ?_)))))))
      rw [bind_id]
      unfold fX12_roading
      refine eq_f o2 ?_
      rw [c34, hT.2.2.2.2.1.2.1]
      exact full_y (n := nr) (m := 10) (f := fun u => fX12_roading_20 n0 u MY) (by omega) (by decide)
  by_cases hk267 : gI MX 386 = 267
  · have hk := hk267
    left
    refine (palmS (n0 := n0) (by omega) h hk).eq ?_ ?_
    · unfold fX4_readStatement xPalm
      exact eq_f (by rw [hk]; decide) (eq_f (by rw [hk]; decide) (eq_f (by rw [hk]; decide) (eq_f (by rw [hk]; decide) (eq_f (by rw [hk]; decide) (eq_f (by rw [hk]; decide) (eq_f (by rw [hk]; decide) (eq_t hk rfl)))))))
    · unfold fX12_statement
      refine eq_b (ylexG h.1 h8) (eq_t e8 (eq_b w260 (eq_t (bI_f (by rw [hk]; decide)) (eq_b w263 (eq_t (bI_f (by rw [hk]; decide)) (eq_b w264 (eq_t (bI_f (by rw [hk]; decide)) (eq_b w267 (eq_f (bz hk) ?_)))))))))
      exact bind_id
  by_cases hk269 : gI MX 386 = 269
  · have hk := hk269
    left
    refine (doingS (n0 := n0) (by omega) h hk).eq ?_ ?_
    · unfold fX4_readStatement
      refine eq_f (by rw [hk]; decide) (eq_f (by rw [hk]; decide) (eq_f (by rw [hk]; decide) (eq_f (by rw [hk]; decide) (eq_f (by rw [hk]; decide) (eq_f (by rw [hk]; decide) (eq_f (by rw [hk]; decide) (eq_f (by rw [hk]; decide) (eq_f (by rw [hk]; decide) (eq_t hk ?_)))))))))
      rw [hA.1, hT.1.2.2.1]
      exact full_nI (m := 6) (f := fun u => fX4_readStatement_229 n0 u MX) (by omega) (by decide)
    · unfold fX12_statement
      refine eq_b (ylexG h.1 h8) (eq_t e8 (eq_b w260 (eq_t (bI_f (by rw [hk]; decide)) (eq_b w263 (eq_t (bI_f (by rw [hk]; decide)) (eq_b w264 (eq_t (bI_f (by rw [hk]; decide)) (eq_b w267 (eq_t (bI_f (by rw [hk]; decide)) (eq_b w269 (eq_f (bz hk) ?_)))))))))))
      rw [bind_id]
      unfold fX12_doings
      refine eq_f o2 ?_
      rw [c34, hT.1.2.2.2.1]
      exact full_y (n := nd) (m := 6) (f := fun u => fX12_doings_20 n0 u MY) (by omega) (by decide)
  by_cases hk272 : gI MX 386 = 272
  · have hk := hk272
    have ey : fX12_statement n0 MY = fX12_reading n0 0 MY := by
      unfold fX12_statement
      refine eq_b (ylexG h.1 h8) (eq_t e8 (eq_b w260 (eq_t (bI_f (by rw [hk]; decide)) (eq_b w263 (eq_t (bI_f (by rw [hk]; decide)) (eq_b w264 (eq_t (bI_f (by rw [hk]; decide)) (eq_b w267 (eq_t (bI_f (by rw [hk]; decide)) (eq_b w269 (eq_t (bI_f (by rw [hk]; decide)) (eq_b w272 (eq_f (bz hk) ?_)))))))))))))
      exact bind_id
    rw [ey]
    refine saysS hn h hk ?_
    unfold fX4_readStatement
    exact eq_f (by rw [hk]; decide) (eq_f (by rw [hk]; decide) (eq_f (by rw [hk]; decide) (eq_f (by rw [hk]; decide) (eq_f (by rw [hk]; decide) (eq_f (by rw [hk]; decide) (eq_f (by rw [hk]; decide) (eq_f (by rw [hk]; decide) (eq_f (by rw [hk]; decide) (eq_f (by rw [hk]; decide) (eq_f (by rw [hk]; decide) (eq_f (by rw [hk]; decide) (eq_t hk rfl))))))))))))
  by_cases hk273 : gI MX 386 = 273
  · have hk := hk273
    have ey : fX12_statement n0 MY = fX12_reading n0 1 MY := by
      unfold fX12_statement
      refine eq_b (ylexG h.1 h8) (eq_t e8 (eq_b w260 (eq_t (bI_f (by rw [hk]; decide)) (eq_b w263 (eq_t (bI_f (by rw [hk]; decide)) (eq_b w264 (eq_t (bI_f (by rw [hk]; decide)) (eq_b w267 (eq_t (bI_f (by rw [hk]; decide)) (eq_b w269 (eq_t (bI_f (by rw [hk]; decide)) (eq_b w272 (eq_t (bI_f (by rw [hk]; decide)) (eq_b w273 (eq_f (bz hk) ?_)))))))))))))))
      exact bind_id
    rw [ey]
    refine goneS hn h hk ?_
    unfold fX4_readStatement
    exact eq_f (by rw [hk]; decide) (eq_f (by rw [hk]; decide) (eq_f (by rw [hk]; decide) (eq_f (by rw [hk]; decide) (eq_f (by rw [hk]; decide) (eq_f (by rw [hk]; decide) (eq_f (by rw [hk]; decide) (eq_f (by rw [hk]; decide) (eq_f (by rw [hk]; decide) (eq_f (by rw [hk]; decide) (eq_f (by rw [hk]; decide) (eq_f (by rw [hk]; decide) (eq_f (by rw [hk]; decide) (eq_t hk rfl)))))))))))))
  by_cases hk274 : gI MX 386 = 274
  · have hk := hk274
    left
    refine (passS (n0 := n0) (by omega) h hk).eq ?_ ?_
    · unfold fX4_readStatement xPass
      exact eq_f (by rw [hk]; decide) (eq_f (by rw [hk]; decide) (eq_f (by rw [hk]; decide) (eq_f (by rw [hk]; decide) (eq_f (by rw [hk]; decide) (eq_f (by rw [hk]; decide) (eq_f (by rw [hk]; decide) (eq_f (by rw [hk]; decide) (eq_f (by rw [hk]; decide) (eq_f (by rw [hk]; decide) (eq_f (by rw [hk]; decide) (eq_f (by rw [hk]; decide) (eq_f (by rw [hk]; decide) (eq_f (by rw [hk]; decide) (eq_t hk rfl))))))))))))))
    · unfold fX12_statement
      refine eq_b (ylexG h.1 h8) (eq_t e8 (eq_b w260 (eq_t (bI_f (by rw [hk]; decide)) (eq_b w263 (eq_t (bI_f (by rw [hk]; decide)) (eq_b w264 (eq_t (bI_f (by rw [hk]; decide)) (eq_b w267 (eq_t (bI_f (by rw [hk]; decide)) (eq_b w269 (eq_t (bI_f (by rw [hk]; decide)) (eq_b w272 (eq_t (bI_f (by rw [hk]; decide)) (eq_b w273 (eq_t (bI_f (by rw [hk]; decide)) (eq_b w274 (eq_f (bz hk) ?_)))))))))))))))))
      exact bind_id
  left; right
  refine ⟨sI (sI MX 391 1) 392 (gI MX 388), sI (sI MY 8 1) 9 (gI MX 388), ?_, ?_, Flt.mk (k := 1) (by decide) (by decide), FIf.q, FYf.b⟩
  · have ed : fX4_readStatement_365 n0 MX = some (0, sI (sI MX 391 1) 392 (gI MX 388)) := by
      unfold fX4_readStatement_365
      exact eq_b xfailH (eq_t (Or.inl rfl) rfl)
    unfold fX4_readStatement
    exact eq_f hk260 (eq_i (fun _ => ed) (fun _ => eq_i (fun _ => ed) (fun _ => eq_f hk263 (eq_f hk264 (eq_i (fun _ => ed) (fun _ => eq_i (fun _ => ed) (fun _ => eq_f hk267 (eq_i (fun _ => ed) (fun _ => eq_f hk269 (eq_i (fun _ => ed) (fun _ => eq_i (fun _ => ed) (fun _ => eq_f hk272 (eq_f hk273 (eq_f hk274 (ed)))))))))))))))
  · unfold fX12_statement
    rw [h.1.pl h8, ← h.1.at_]
    exact eq_b (ylexG h.1 h8) (eq_t e8 (eq_b w260 (eq_t (bI_f hk260) (eq_b w263 (eq_t (bI_f hk263) (eq_b w264 (eq_t (bI_f hk264) (eq_b w267 (eq_t (bI_f hk267) (eq_b w269 (eq_t (bI_f hk269) (eq_b w272 (eq_t (bI_f hk272) (eq_b w273 (eq_t (bI_f hk273) (eq_b w274 (eq_t (bI_f hk274) (eq_b (yblame0 h.1.f8) rfl))))))))))))))))))
