/-! MINUTES OF A TOWN WITHOUT CORNERS AND DOINGS, and plans there -/
def EXm (M : Mem) : Prop := gI M (128 * gR M 1280 + 5) = 0 ∧ gI M (128 * gR M 1280 + 12) = 0 ∧ gI M (128 * gR M 1 + 5) = 0
theorem EXm_sI {M : Mem} {k : Nat} {v : Int32} (h : EXm M) (h5 : ∀ a, ¬ 128 * a + 5 = k) (h12 : ∀ a, ¬ 128 * a + 12 = k) : EXm (sI M k v) := by
  refine ⟨?_, ?_, ?_⟩
  · show gI (sI M k v) (128 * gR M 1280 + 5) = 0
    rw [gI_sI, if_neg (h5 _)]
    exact h.1
  · show gI (sI M k v) (128 * gR M 1280 + 12) = 0
    rw [gI_sI, if_neg (h12 _)]
    exact h.2.1
  · show gI (sI M k v) (128 * gR M 1 + 5) = 0
    rw [gI_sI, if_neg (h5 _)]
    exact h.2.2
theorem xm_goOn {M : Mem} (h : EXm M) : ∃ M', fX6_goOn 200 M = some M' ∧ EXm M' := by
  refine ⟨sI M 1281 (imin 9999 (gI M 1281 + 1)), ?_, EXm_sI h (fun a => by omega) (fun a => by omega)⟩
  unfold fX6_goOn fX6_goOn_2
  rw [lp200, bX6_goOn_2, h.1, if_pos zero_le0]
theorem xm_due {M : Mem} (h : EXm M) : fX6_doWhatIsDue 200 M = some (0, M) := by
  unfold fX6_doWhatIsDue fX6_doWhatIsDue_4
  rw [lp200, bX6_doWhatIsDue_4, h.2.1, if_pos zero_le0]
theorem xm_draw {M : Mem} (h : EXm M) : ∃ z M', fX11_draw 200 100 M = some (z, M') ∧ EXm M' := by
  unfold fX11_draw bnd
  dsimp only
  rw [if_neg (by decide +kernel), if_neg (by decide +kernel), if_neg (by decide +kernel)]
  exact ⟨_, _, rfl, EXm_sI h (fun a => by omega) (fun a => by omega)⟩
theorem xm_pass {M : Mem} (h : EXm M) : ∃ M', fX11_letPass 200 M = some (0, M') ∧ EXm M' := by
  obtain ⟨z, M1, e, h1⟩ := xm_draw h
  refine ⟨M1, ?_, h1⟩
  unfold fX11_letPass
  rw [e]
  show (if gI M1 (128 * gR M1 1 + 16) ≤ z then _ else if gI M1 (128 * gR M1 1 + 5) = 0 then _ else _) = _
  rw [h1.2.2, if_pos (rfl : (0 : Int32) = 0), ite_self]
theorem xm_minutes {n : Nat} (hn : n ≤ 100) : ∀ (f j : Nat) (M : Mem), EXm M → j ≤ n → n - j < f → an 0 (loopN (bX11_minutes_40 200) (fun _ _ _ _ => none) f (nI n) 0 (nI j) M) := by
  intro f
  induction f with
  | zero => intro j M _ _ h; omega
  | succ f ih =>
    intro j M hE hj hf
    show an 0 (bX11_minutes_40 200 (loopN (bX11_minutes_40 200) (fun _ _ _ _ => none) f) (nI n) 0 (nI j) M)
    rw [bX11_minutes_40]
    by_cases h : n ≤ j
    · exact an_t (nI_le h (by omega)) an_some
    · obtain ⟨M1, e1, h1⟩ := xm_goOn hE
      refine an_f (nI_ge (by omega) (by omega)) (an_b e1 (an_b (xm_due h1) ?_))
      show an 0 (loopN (bX11_minutes_40 200) (fun _ _ _ _ => none) f (nI n) (0 + 0) (nI j + 1) M1)
      rw [nI_1, show (0 : Int32) + 0 = 0 from rfl]
      exact ih (j + 1) M1 h1 (by omega) (by omega)
theorem xm_chance {n : Nat} (hn : n ≤ 100) : ∀ (f j : Nat) (M : Mem), EXm M → j ≤ n → n - j < f → an 0 (loopN (bX11_chance_40 200) (fun _ _ _ _ => none) f (nI n) 0 (nI j) M) := by
  intro f
  induction f with
  | zero => intro j M _ _ h; omega
  | succ f ih =>
    intro j M hE hj hf
    show an 0 (bX11_chance_40 200 (loopN (bX11_chance_40 200) (fun _ _ _ _ => none) f) (nI n) 0 (nI j) M)
    rw [bX11_chance_40]
    by_cases h : n ≤ j
    · exact an_t (nI_le h (by omega)) an_some
    · obtain ⟨M1, e1, h1⟩ := xm_goOn hE
      obtain ⟨M2, e2, h2⟩ := xm_pass h1
      refine an_f (nI_ge (by omega) (by omega)) (an_b e1 (an_b e2 (an_bnd (an_b (xm_due h2) ?_))))
      show an 0 (loopN (bX11_chance_40 200) (fun _ _ _ _ => none) f (nI n) (0 + 0) (nI j + 1) M2)
      rw [nI_1, show (0 : Int32) + 0 = 0 from rfl]
      exact ih (j + 1) M2 h2 (by omega) (by omega)
theorem xm_plan {M : Mem} {x2 : Int32} (h : gI M (128 * gR M 1 + 5) = 0) : an 0 (fX11_plan_55 200 0 x2 (-1) M) := by
  have e1 : fX11_planNothing 200 0 x2 M = some (1, M) := by
    unfold fX11_planNothing fX11_planNothing_2
    rw [lp200, bX11_planNothing_2, h, if_pos zero_le0]
    unfold fX11_planNothing_28
    rw [lp200, bX11_planNothing_28, h, if_pos zero_le0]
  have e2 : fX11_countPlanned 200 M = some (0, M) := by
    unfold fX11_countPlanned fX11_countPlanned_4
    rw [lp200, bX11_countPlanned_4, h, if_pos zero_le0]
  unfold fX11_plan_55 fX11_plan_89 fX11_plan_94
  exact an_b e1 (an_f one_ne (an_f (by decide +kernel) (an_t rfl (an_b e2 an_some))))
def EYm (M : Mem) : Prop := gI M 13 = 0 ∧ gA M 5 0 = 0 ∧ gA M 10 0 = 0
theorem ym_o {M : Mem} (h : EYm M) : ¬ oob (gI M 13) 2 := by rw [h.1]; exact oob02
theorem ym_c {M : Mem} (h : EYm M) : gA M 5 (Int32.toNatClampNeg (gI M 13)) ≤ 0 := by rw [h.1, clamp0, h.2.1]; exact zero_le0
theorem ym_n {M : Mem} (h : EYm M) : gA M 5 (Int32.toNatClampNeg (gI M 13)) - 1 < 0 := by rw [h.1, clamp0, h.2.1]; decide +kernel
theorem ym_d {M : Mem} (h : EYm M) : gA M 10 (Int32.toNatClampNeg (gI M 13)) ≤ 0 := by rw [h.1, clamp0, h.2.2]; exact zero_le0
theorem ym_ticks {M : Mem} {v : Int32} (hv : ¬ oob v 22) (h : EYm M) : ∃ M', fX12_ticks 200 v M = some M' ∧ EYm M' := by
  have h9 : EYm (sA M 28 (Int32.toNatClampNeg v) (gA M 28 (Int32.toNatClampNeg v) + 1)) := ⟨h.1, by rw [gA_sA_ne (by decide)]; exact h.2.1, by rw [gA_sA_ne (by decide)]; exact h.2.2⟩
  refine ⟨_, ?_, h9⟩
  unfold fX12_ticks bnd
  rw [if_neg hv, if_neg hv]
  generalize sA M 28 (Int32.toNatClampNeg v) (gA M 28 (Int32.toNatClampNeg v) + 1) = M9 at h9 ⊢
  show fX12_ticks_12 200 v 0 M9 = _
  unfold fX12_ticks_12
  rw [lp200, bX12_ticks_12, if_neg (ym_o h9), if_pos (ym_c h9)]
theorem ym_fin {M : Mem} {v : Int32} (h : EYm M) : fX12_finishesDoings 200 v M = some (0, M) := by
  unfold fX12_finishesDoings fX12_finishesDoings_4
  rw [lp200, bX12_finishesDoings_4, if_neg (ym_o h), if_pos (ym_d h)]
theorem ym_pass {M : Mem} {v : Int32} (hv : ¬ oob v 22) (h : EYm M) : ∃ M', fX12_passes 200 v M = some (0, M') ∧ EYm M' := by
  obtain ⟨M1, e1, h1⟩ := ym_ticks hv h
  refine ⟨M1, ?_, h1⟩
  unfold fX12_passes
  rw [e1, Option.bind_some, ym_fin h1, Option.bind_some]
theorem ym_draw {M : Mem} (h : EYm M) : ∃ z M', fX12_draw 200 100 M = some (z, M') ∧ EYm M' := by
  unfold fX12_draw bnd
  dsimp only
  rw [if_neg (by decide +kernel), if_neg (by decide +kernel), if_neg (by decide +kernel)]
  exact ⟨_, _, rfl, h⟩
theorem ym_minutes {n : Nat} (hn : n ≤ 100) : ∀ (f j : Nat) (M : Mem), EYm M → j ≤ n → n - j < f → an 0 (loopN (bX12_minutes_25 200) (fun _ _ _ _ => none) f (nI n) 0 (nI j) M) := by
  intro f
  induction f with
  | zero => intro j M _ _ h; omega
  | succ f ih =>
    intro j M hE hj hf
    show an 0 (bX12_minutes_25 200 (loopN (bX12_minutes_25 200) (fun _ _ _ _ => none) f) (nI n) 0 (nI j) M)
    rw [bX12_minutes_25]
    by_cases h : n ≤ j
    · exact an_t (nI_le h (by omega)) an_some
    · obtain ⟨M1, e1, h1⟩ := ym_pass oob022 hE
      refine an_f (nI_ge (by omega) (by omega)) (an_b e1 ?_)
      show an 0 (loopN (bX12_minutes_25 200) (fun _ _ _ _ => none) f (nI n) (0 + 0) (nI j + 1) M1)
      rw [nI_1, show (0 : Int32) + 0 = 0 from rfl]
      exact ih (j + 1) M1 h1 (by omega) (by omega)
theorem ym_chance {n : Nat} (hn : n ≤ 100) : ∀ (f j : Nat) (M : Mem), EYm M → j ≤ n → n - j < f → an 0 (loopN (bX12_chance_25 200) (fun _ _ _ _ => none) f (nI n) 0 (nI j) M) := by
  intro f
  induction f with
  | zero => intro j M _ _ h; omega
  | succ f ih =>
    intro j M hE hj hf
    show an 0 (bX12_chance_25 200 (loopN (bX12_chance_25 200) (fun _ _ _ _ => none) f) (nI n) 0 (nI j) M)
    rw [bX12_chance_25]
    by_cases h : n ≤ j
    · exact an_t (nI_le h (by omega)) an_some
    · obtain ⟨M1, e1, h1⟩ := ym_ticks oob022 hE
      obtain ⟨z, M2, e2, h2⟩ := ym_draw h1
      have K : an 0 (fX12_chance_115 200 (loopN (bX12_chance_25 200) (fun _ _ _ _ => none) f) (nI n) 0 (nI j) M2) := by
        unfold fX12_chance_115
        refine an_b (ym_fin h2) ?_
        show an 0 (loopN (bX12_chance_25 200) (fun _ _ _ _ => none) f (nI n) 0 (nI j + 1) M2)
        rw [nI_1]
        exact ih (j + 1) M2 h2 (by omega) (by omega)
      refine an_f (nI_ge (by omega) (by omega)) (an_b e1 (an_b e2 ?_))
      exact an_f (ym_o h2) (an_ite (fun _ => K) (fun _ => an_f (ym_o h2) (an_t (ym_c h2) K)))
theorem ym_done {n : Nat} (hn : n ≤ 100) : ∀ (f j : Nat) (M : Mem), EYm M → j ≤ n → n - j < f → ∃ M', loopN (bX12_isDoneBy_57 200) (fun _ _ _ _ => none) f 0 (nI n) (nI j) M = some (1, M') ∧ EYm M' := by
  intro f
  induction f with
  | zero => intro j M _ _ h; omega
  | succ f ih =>
    intro j M hE hj hf
    show ∃ M', bX12_isDoneBy_57 200 (loopN (bX12_isDoneBy_57 200) (fun _ _ _ _ => none) f) 0 (nI n) (nI j) M = some (1, M') ∧ EYm M'
    rw [bX12_isDoneBy_57]
    by_cases h : n ≤ j
    · exact ⟨M, by rw [if_pos (nI_le h (by omega)), if_neg oob122, if_pos Int32.zero_and], hE⟩
    · obtain ⟨M1, e1, h1⟩ := ym_pass oob122 hE
      rw [if_neg (nI_ge (by omega) (by omega)), e1, Option.bind_some]
      show ∃ M', loopN (bX12_isDoneBy_57 200) (fun _ _ _ _ => none) f 0 (nI n) (nI j + 1) M1 = some (1, M') ∧ EYm M'
      rw [nI_1]
      exact ih (j + 1) M1 h1 (by omega) (by omega)
theorem ym_doneBy {n : Nat} (hn : n ≤ 100) {M Mc : Mem} (hc : fX12_copies 200 1 0 M = some Mc) (h : EYm Mc) : ∃ M', fX12_isDoneBy 200 0 (nI n) M = some (1, M') ∧ EYm M' := by
  obtain ⟨M', e, h'⟩ := ym_done hn 200 0 Mc h (by omega) (by omega)
  refine ⟨M', ?_, h'⟩
  unfold fX12_isDoneBy
  rw [hc, Option.bind_some]
  unfold fX12_isDoneBy_8
  rw [lp200, bX12_isDoneBy_8, if_neg (ym_o h), if_pos (ym_c h), ym_fin h, Option.bind_some]
  exact e
theorem ym_plan {n : Nat} (hn : n ≤ 100) {M Mc : Mem} (h : EYm M) (hc : fX12_copies 200 1 0 M = some Mc) (hm : EYm Mc) : an 0 (fX12_plan_47 200 0 (nI n) (-1) M) := by
  obtain ⟨M', e, h'⟩ := ym_doneBy hn hc hm
  unfold fX12_plan_47 fX12_plan_53
  rw [lp200, bX12_plan_53, if_neg (ym_o h), if_pos (ym_c h)]
  unfold fX12_plan_95
  rw [lp200, bX12_plan_95, if_neg (by decide +kernel), if_neg (ym_o h)]
  refine an_bnd ?_
  unfold fX12_plan_122
  rw [lp200, bX12_plan_122, if_pos (ym_n h), if_pos rfl]
  unfold fX12_plan_206
  refine an_b e (an_f one_ne ?_)
  unfold fX12_plan_225
  rw [lp200, bX12_plan_225, if_neg (ym_o h'), if_pos (ym_c h')]
  unfold fX12_plan_259
  rw [lp199, bX12_plan_95, if_pos (by decide +kernel), if_neg (by decide +kernel), if_pos rfl]
  exact an_some
