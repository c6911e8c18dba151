/-! THE FIRST CALL -/
theorem MX1_some : (fX11_begin 200 MX0).isSome = true := by decide +kernel
def MX1 : Mem := (fX11_begin 200 MX0).getD MX0
theorem MX1_eq : fX11_begin 200 MX0 = some MX1 := getD_of MX1_some
theorem X_1 : gI MX1 (128 * gR MX1 1 + 1) = 0 := by decide +kernel
theorem X_5 : gI MX1 (128 * gR MX1 1 + 5) = 0 := by decide +kernel
theorem X_12 : gI MX1 (128 * gR MX1 1 + 12) = 0 := by decide +kernel
theorem X_641 : gI MX1 641 = 0 := by decide +kernel
theorem X_room : fX7_hasRoomFor 200 20 MX1 = some (1, MX1) := by
  unfold fX7_hasRoomFor
  rw [X_641]
  exact if_neg (by decide +kernel)
theorem X_mem : EXm MX1 := ⟨by decide +kernel, by decide +kernel, X_5⟩
theorem Y_13 : gI MY0 13 = 0 := by decide +kernel
theorem Y_2 : gA MY0 2 0 = 0 := by decide +kernel
theorem Y_5 : gA MY0 5 0 = 0 := by decide +kernel
theorem Y_10 : gA MY0 10 0 = 0 := by decide +kernel
theorem Y_mem : EYm MY0 := ⟨Y_13, Y_5, Y_10⟩
section
variable (a : Nat → Int32)
theorem st0 : ∃ Z, stp0 200 a MX1 MY0 = some Z := an_stp (x_feed X_room X_641) (y_feed (by decide +kernel))
theorem st1 : ∃ Z, stp1 200 a MX1 MY0 = some Z := by
  by_cases h : ¬ a 1 < 0 ∧ a 1 ≤ 0
  · exact an_stp (x_end1 X_641 h.1 h.2) (y_end1 (by decide +kernel) h.1 h.2)
  · exact an_stp (x_end0 X_641 h) (y_end0 (by decide +kernel) h)
theorem st2 : ∃ Z, stp2 200 a MX1 MY0 = some Z := Option.isSome_iff_exists.mp (show (stp2 200 (fun _ => 0) MX1 MY0).isSome = true by decide +kernel)
theorem st3 : ∃ Z, stp3 200 a MX1 MY0 = some Z := by
  unfold stp3
  generalize a 1 = x
  by_cases h0 : x = 0
  · rw [h0]; exact an_stp (v := 0) (an_of (by decide +kernel)) (an_of (by decide +kernel))
  by_cases h1 : x = 1
  · rw [h1]; exact an_stp (v := -1) (an_of (by decide +kernel)) (an_of (by decide +kernel))
  · exact an_stp (v := -1) (by unfold fX11_fault; exact an_f h0 (an_f h1 an_some)) (by unfold fX12_fault; exact an_f h0 (an_f h1 an_some))
theorem st4 : ∃ Z, stp4 200 a MX1 MY0 = some Z := by
  unfold stp4
  generalize a 1 = x
  by_cases h0 : x = 0
  · rw [h0]; exact an_stp (v := 0) (an_of (by decide +kernel)) (an_of (by decide +kernel))
  by_cases h1 : x = 1
  · rw [h1]; exact an_stp (v := 0) (an_of (by decide +kernel)) (an_of (by decide +kernel))
  by_cases h2 : x = 2
  · rw [h2]; exact an_stp (v := 0) (an_of (by decide +kernel)) (an_of (by decide +kernel))
  by_cases h3 : x = 3
  · rw [h3]; exact an_stp (v := 0) (an_of (by decide +kernel)) (an_of (by decide +kernel))
  by_cases h4 : x = 4
  · rw [h4]; exact an_stp (v := 0) (an_of (by decide +kernel)) (an_of (by decide +kernel))
  by_cases h5 : x = 5
  · rw [h5]; exact an_stp (v := 0) (an_of (by decide +kernel)) (an_of (by decide +kernel))
  by_cases h6 : x = 6
  · rw [h6]; exact an_stp (v := 0) (an_of (by decide +kernel)) (an_of (by decide +kernel))
  by_cases h7 : x = 7
  · rw [h7]; exact an_stp (v := 0) (an_of (by decide +kernel)) (an_of (by decide +kernel))
  by_cases h8 : x = 8
  · rw [h8]; exact an_stp (v := 0) (an_of (by decide +kernel)) (an_of (by decide +kernel))
  by_cases h9 : x = 9
  · rw [h9]; exact an_stp (v := 0) (an_of (by decide +kernel)) (an_of (by decide +kernel))
  by_cases h10 : x = 10
  · rw [h10]; exact an_stp (v := 1) (an_of (by decide +kernel)) (an_of (by decide +kernel))
  · refine an_stp (v := -1) ?_ ?_
    · unfold fX11_has
      exact an_f h0 (an_f h1 (an_f h2 (an_f h3 (an_f h4 (an_f h5 (an_f h6 (an_f h7 (an_f h8 (an_f h9 (an_f h10 an_some))))))))))
    · unfold fX12_has
      exact an_f h0 (an_f h1 (an_f h2 (an_f h3 (an_f h4 (an_f h5 (an_f h6 (an_f h7 (an_f h8 (an_f h9 (an_f h10 an_some))))))))))
theorem st5 : ∃ Z, stp5 200 a MX1 MY0 = some Z := an_stp (x_letter X_1 X_5 X_12) (y_letter Y_13 Y_2 Y_5 Y_10)
theorem st6 : ∃ Z, stp6 200 a MX1 MY0 = some Z := an_stp (x_thing X_1) (y_thing Y_13 Y_2)
theorem st7 : ∃ Z, stp7 200 a MX1 MY0 = some Z := an_stp (x_corner X_5) (y_corner Y_13 Y_5)
theorem st8 : ∃ Z, stp8 200 a MX1 MY0 = some Z := an_stp (x_doing X_12) (y_doing Y_13 Y_10)
theorem st9 : ∃ Z, stp9 200 a MX1 MY0 = some Z := an_stp (x_later X_5) (y_later Y_13 Y_5)
theorem st10 : ∃ Z, stp10 200 a MX1 MY0 = some Z := an_stp (x_when X_12) (y_when Y_13 Y_10)
theorem st11 : ∃ Z, stp11 200 a MX1 MY0 = some Z := an_stp (x_alike X_5) (y_alike Y_13 Y_5)
def MYc : Mem := (fX12_copies 200 1 0 MY0).getD MY0
theorem MYc_eq : fX12_copies 200 1 0 MY0 = some MYc := getD_of (by decide +kernel)
theorem MYc_mem : EYm MYc := ⟨by decide +kernel, by decide +kernel, by decide +kernel⟩
theorem tX : ∀ k, k < 101 → nI k ≤ 9999 - gI MX1 1281 := by decide +kernel
theorem tY : ∀ k, k < 101 → ¬ (9999 - nI k < gA MY0 28 (Int32.toNatClampNeg 0)) := by decide +kernel
theorem x_bey {k : Nat} (h : k < 101) : fX11_isBeyond 200 (nI k) MX1 = some (0, MX1) := by
  unfold fX11_isBeyond
  exact if_pos (tX k h)
theorem y_ahead1 {k : Nat} {lo hi : Int32} (h : k < 101) (h1 : ¬ nI k < lo) (h2 : ¬ hi < nI k) : fX12_isAhead 200 (nI k) lo hi MY0 = some (1, MY0) := by
  unfold fX12_isAhead
  rw [y_is1 h1 h2, Option.bind_some, if_neg (show ¬ ((1 : Int32), MY0).1 = 0 by decide +kernel), if_neg oob022, if_neg (tY k h)]
theorem y_ahead0 {x lo hi : Int32} (h : x < lo ∨ hi < x) : fX12_isAhead 200 x lo hi MY0 = some (0, MY0) := by
  unfold fX12_isAhead
  rw [y_is0 h, Option.bind_some, if_pos (show ((0 : Int32), MY0).1 = 0 from rfl)]
theorem X_sh : (1 : Int32) <<< (gI MX1 (128 * gR MX1 1 + 12) &&& 31) = 1 := by decide +kernel
theorem Y_sh : ((1 : Int32) <<< (gA MY0 10 (Int32.toNatClampNeg 0) &&& 31)) - 1 = 0 := by decide +kernel
theorem st12 : ∃ Z, stp12 200 a MX1 MY0 = some Z := by
  unfold stp12
  generalize a 1 = x1
  generalize a 2 = x2
  generalize a 3 = x3
  unfold fX11_plan fX12_plan
  rw [X_sh, Y_13, if_neg oob02, Y_sh]
  by_cases h1 : x1 = 0
  · subst h1
    have h0 : ¬ (0 : Int32) < 0 := by decide +kernel
    rcases pk_ix x2 (n := 21) (by decide) with h | h | ⟨k, hk, rfl⟩
    · exact an_stp (v := -1) (an_f h0 (an_f (by decide +kernel) (an_t h an_some))) (an_b (y_is1 h0 h0) (an_f (by decide +kernel) (an_b (y_ahead0 (Or.inl h)) (an_t rfl an_some))))
    · have h20 : (20 : Int32) < x2 := lt_of_s (n := 20) (by decide) h
      exact an_stp (v := -1) (an_f h0 (an_f (by decide +kernel) (an_ite (fun _ => an_some) (fun _ => an_t h20 an_some)))) (an_b (y_is1 h0 h0) (an_f (by decide +kernel) (an_b (y_ahead0 (Or.inr h20)) (an_t rfl an_some))))
    · have hp : ¬ nI k < 0 := nI_pos (by omega)
      have hq : ¬ (20 : Int32) < nI k := nI_nlt (a := 20) (b := k) (by omega) (by decide)
      by_cases h3 : x3 = -1
      · subst h3
        exact an_stp (v := 0) (an_f h0 (an_f (by decide +kernel) (an_f hp (an_f hq (an_b (x_bey (by omega)) (an_t rfl (an_t rfl (xm_plan X_5)))))))) (an_b (y_is1 h0 h0) (an_f (by decide +kernel) (an_b (y_ahead1 (by omega) hp hq) (an_f (by decide +kernel) (an_t rfl (ym_plan (by omega) Y_mem MYc_eq MYc_mem))))))
      · exact an_stp (v := -1) (an_f h0 (an_f (by decide +kernel) (an_f hp (an_f hq (an_b (x_bey (by omega)) (an_t rfl (an_f h3 (an_b (xc0 X_5) (an_t rfl an_some))))))))) (an_b (y_is1 h0 h0) (an_f (by decide +kernel) (an_b (y_ahead1 (by omega) hp hq) (an_f (by decide +kernel) (an_f h3 (an_b (yc0 Y_13 Y_5) (an_t rfl an_some)))))))
  · by_cases hn : x1 < 0
    · exact an_stp (v := -1) (an_t hn an_some) (an_b (y_is0 (Or.inl hn)) (an_t rfl an_some))
    · exact an_stp (v := -1) (an_f hn (an_t (pos_of hn h1).1 an_some)) (an_b (y_is0 (Or.inr (pos_of hn h1).2)) (an_t rfl an_some))
theorem st13 : ∃ Z, stp13 200 a MX1 MY0 = some Z := an_stp (x_evening X_5) (y_evening Y_13 Y_5)
theorem st14 : ∃ Z, stp14 200 a MX1 MY0 = some Z := an_stp (x_odds X_5) (y_odds Y_13 Y_5)
theorem st15 : ∃ Z, stp15 200 a MX1 MY0 = some Z := an_stp (x_way X_5) (y_way Y_13 Y_5)
theorem st16 : ∃ Z, stp16 200 a MX1 MY0 = some Z := an_stp (x_arrive X_5) (y_arrive Y_13 Y_5)
theorem st17 : ∃ Z, stp17 200 a MX1 MY0 = some Z := an_stp (x_early X_5) (y_early Y_13 Y_5)
theorem st18 : ∃ Z, stp18 200 a MX1 MY0 = some Z := Option.isSome_iff_exists.mp (show (stp18 200 (fun _ => 0) MX1 MY0).isSome = true by decide +kernel)
theorem st19 : ∃ Z, stp19 200 a MX1 MY0 = some Z := an_stp (x_held X_5) (y_held Y_13 Y_5)
theorem st20 : ∃ Z, stp20 200 a MX1 MY0 = some Z := an_stp (x_tells X_5) (y_tells Y_13 Y_5)
def MXr : Mem := (fX2_remember 200 MX1).getD MX1
theorem MXr_eq : fX2_remember 200 MX1 = some MXr := getD_of (by decide +kernel)
theorem MXr_mem : EXm MXr := ⟨by decide +kernel, by decide +kernel, by decide +kernel⟩
def MYk : Mem := (fX12_keeps 200 MY0).getD MY0
theorem MYk_eq : fX12_keeps 200 MY0 = some MYk := getD_of (by decide +kernel)
theorem MYk_mem : EYm MYk := ⟨by decide +kernel, by decide +kernel, by decide +kernel⟩
theorem one_of {x : Int32} (h : ¬ x < 1) (h2 : ¬ 100 < x) : ∃ k, k ≤ 100 ∧ x = nI k := by
  refine nI_of2 (M := 100) (n := 100) (by decide +kernel) (fun h0 => h ?_) (Int32.not_lt.mp h2)
  rw [Int32.lt_iff_toInt_lt, i0_toInt] at h0
  rw [Int32.lt_iff_toInt_lt, i1_toInt]
  omega
theorem st21 : ∃ Z, stp21 200 a MX1 MY0 = some Z := by
  unfold stp21
  generalize a 1 = x
  unfold fX11_minutes fX12_minutes fX11_minutes_19
  by_cases h1 : x < 1
  · exact an_stp (v := -1) (an_t h1 (an_bb (x_ref (by decide +kernel) (by decide +kernel) (by decide +kernel)) (fun _ => an_some))) (an_b (y_ahead0 (Or.inl h1)) (an_t rfl (an_bb (y_ref (by decide +kernel)) (fun _ => an_some))))
  by_cases h2 : 100 < x
  · exact an_stp (v := -1) (an_f h1 (an_t h2 (an_bb (x_ref (by decide +kernel) (by decide +kernel) (by decide +kernel)) (fun _ => an_some)))) (an_b (y_ahead0 (Or.inr h2)) (an_t rfl (an_bb (y_ref (by decide +kernel)) (fun _ => an_some))))
  · obtain ⟨k, hk, rfl⟩ := one_of h1 h2
    exact an_stp (v := 0) (an_f h1 (an_f h2 (an_b (x_bey (by omega)) (an_t rfl (an_b MXr_eq (xm_minutes hk 200 0 MXr MXr_mem (by omega) (by omega))))))) (an_b (y_ahead1 (by omega) h1 h2) (an_f (by decide +kernel) (an_b MYk_eq (ym_minutes hk 200 0 MYk MYk_mem (by omega) (by omega)))))
theorem st22 : ∃ Z, stp22 200 a MX1 MY0 = some Z := by
  unfold stp22
  generalize a 1 = x
  unfold fX11_chance fX12_chance fX11_chance_19
  by_cases h1 : x < 1
  · exact an_stp (v := -1) (an_t h1 (an_bb (x_ref (by decide +kernel) (by decide +kernel) (by decide +kernel)) (fun _ => an_some))) (an_b (y_ahead0 (Or.inl h1)) (an_t rfl (an_bb (y_ref (by decide +kernel)) (fun _ => an_some))))
  by_cases h2 : 100 < x
  · exact an_stp (v := -1) (an_f h1 (an_t h2 (an_bb (x_ref (by decide +kernel) (by decide +kernel) (by decide +kernel)) (fun _ => an_some)))) (an_b (y_ahead0 (Or.inr h2)) (an_t rfl (an_bb (y_ref (by decide +kernel)) (fun _ => an_some))))
  · obtain ⟨k, hk, rfl⟩ := one_of h1 h2
    exact an_stp (v := 0) (an_f h1 (an_f h2 (an_b (x_bey (by omega)) (an_t rfl (an_b MXr_eq (xm_chance hk 200 0 MXr MXr_mem (by omega) (by omega))))))) (an_b (y_ahead1 (by omega) h1 h2) (an_f (by decide +kernel) (an_b MYk_eq (ym_chance hk 200 0 MYk MYk_mem (by omega) (by omega)))))
theorem st23 : ∃ Z, stp23 200 a MX1 MY0 = some Z := an_stp (x_give X_5) (y_give Y_13 Y_5)
theorem st24 : ∃ Z, stp24 200 a MX1 MY0 = some Z := an_stp (x_take X_5) (y_take Y_13 Y_5)
theorem st25 : ∃ Z, stp25 200 a MX1 MY0 = some Z := Option.isSome_iff_exists.mp (show (stp25 200 (fun _ => 0) MX1 MY0).isSome = true by decide +kernel)
theorem st26 : ∃ Z, stp26 200 a MX1 MY0 = some Z := by
  by_cases h : (0 : Int32) ≤ a 1
  · exact an_stp (x_seed1 h) (y_seed1 h)
  · exact an_stp (x_seed0 h) (y_seed0 h)
theorem st27 : ∃ Z, stp27 200 a MX1 MY0 = some Z := an_stp (x_kept (by decide +kernel)) (y_kept (by decide +kernel))
theorem st28 : ∃ Z, stp28 200 a MX1 MY0 = some Z := Option.isSome_iff_exists.mp (show (stp28 200 (fun _ => 0) MX1 MY0).isSome = true by decide +kernel)
theorem st29 : ∃ Z, stp29 200 a MX1 MY0 = some Z := an_stp (x_octet (by decide +kernel)) (y_octet (by decide +kernel))
theorem st30 : ∃ Z, stp30 200 a MX1 MY0 = some Z := Option.isSome_iff_exists.mp (show (stp30 200 (fun _ => 0) MX1 MY0).isSome = true by decide +kernel)
theorem tS : ∀ k, k < 6 → (fX11_status 200 (nI k) MX1).map Prod.fst = some 0 ∧ (fX12_status 200 (nI k) MY0).map Prod.fst = some 0 := by decide +kernel
theorem st31 : ∃ Z, stp31 200 a MX1 MY0 = some Z := by
  unfold stp31
  generalize a 1 = x
  rcases pk_ix x (n := 6) (by decide) with h | h | ⟨k, hk, rfl⟩
  · refine an_stp (v := -1) ?_ ?_
    · unfold fX11_status
      exact an_t h an_some
    · unfold fX12_status
      exact an_b (y_is0 (Or.inl h)) (an_t rfl an_some)
  · refine an_stp (v := -1) ?_ ?_
    · unfold fX11_status
      exact an_ite (fun _ => an_some) (fun _ => an_t h an_some)
    · unfold fX12_status
      exact an_b (y_is0 (Or.inr (lt_of_s (n := 5) (by decide) h))) (an_t rfl an_some)
  · exact an_stp (an_of (tS k hk).1) (an_of (tS k hk).2)
theorem st_all (k : Nat) (hk : k < 32) : ∃ Z, stepL 200 k a MX1 MY0 = some Z := by
  rcases (show k = 0 ∨ k = 1 ∨ k = 2 ∨ k = 3 ∨ k = 4 ∨ k = 5 ∨ k = 6 ∨ k = 7 ∨ k = 8 ∨ k = 9 ∨ k = 10 ∨ k = 11 ∨ k = 12 ∨ k = 13 ∨ k = 14 ∨ k = 15 ∨ k = 16 ∨ k = 17 ∨ k = 18 ∨ k = 19 ∨ k = 20 ∨ k = 21 ∨ k = 22 ∨ k = 23 ∨ k = 24 ∨ k = 25 ∨ k = 26 ∨ k = 27 ∨ k = 28 ∨ k = 29 ∨ k = 30 ∨ k = 31 by omega) with rfl | rfl | rfl | rfl | rfl | rfl | rfl | rfl | rfl | rfl | rfl | rfl | rfl | rfl | rfl | rfl | rfl | rfl | rfl | rfl | rfl | rfl | rfl | rfl | rfl | rfl | rfl | rfl | rfl | rfl | rfl | rfl
  · exact st0 a
  · exact st1 a
  · exact st2 a
  · exact st3 a
  · exact st4 a
  · exact st5 a
  · exact st6 a
  · exact st7 a
  · exact st8 a
  · exact st9 a
  · exact st10 a
  · exact st11 a
  · exact st12 a
  · exact st13 a
  · exact st14 a
  · exact st15 a
  · exact st16 a
  · exact st17 a
  · exact st18 a
  · exact st19 a
  · exact st20 a
  · exact st21 a
  · exact st22 a
  · exact st23 a
  · exact st24 a
  · exact st25 a
  · exact st26 a
  · exact st27 a
  · exact st28 a
  · exact st29 a
  · exact st30 a
  · exact st31 a
end
theorem law6 {L : Nat} (hL : L ≤ 6) (xs : Nat → Int32) : lawF 200 L xs 2 0 MX1 MY0 = some () := by
  rw [lawF]
  by_cases h : 0 + 6 ≤ L
  · rw [if_pos h]
    obtain ⟨Z, e⟩ := st_all (fun t => xs (0 + t)) ((xs 0).toBitVec.toNat % 32) (Nat.mod_lt _ (by decide))
    rw [e, Option.bind_some, lawF, if_neg (by omega)]
  · rw [if_neg h]
