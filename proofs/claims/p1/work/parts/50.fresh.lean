/-! ONE CALL ON A FRESH OBJECT: what both sides' functions answer there -/
/-- the answer is v, whatever the memory behind it -/
def an {α : Type} (v : α) (o : Option (α × Mem)) : Prop := ∃ M', o = some (v, M')
theorem an_some {α : Type} {v : α} {M : Mem} : an v (some (v, M)) := ⟨M, rfl⟩
theorem an_of {α : Type} {v : α} {o : Option (α × Mem)} (h : o.map Prod.fst = some v) : an v o := by
  cases o with
  | none => cases h
  | some z => cases h; exact ⟨z.2, rfl⟩
theorem an_ite {α : Type} {v : α} {c : Prop} [Decidable c] {a b : Option (α × Mem)} (h1 : c → an v a) (h2 : ¬ c → an v b) : an v (if c then a else b) := by
  by_cases h : c
  · rw [if_pos h]; exact h1 h
  · rw [if_neg h]; exact h2 h
theorem an_t {α : Type} {v : α} {c : Prop} [Decidable c] {a b : Option (α × Mem)} (h : c) (h1 : an v a) : an v (if c then a else b) := by rw [if_pos h]; exact h1
theorem an_f {α : Type} {v : α} {c : Prop} [Decidable c] {a b : Option (α × Mem)} (h : ¬ c) (h1 : an v b) : an v (if c then a else b) := by rw [if_neg h]; exact h1
theorem an_b {α β : Type} {v : β} {o : Option α} {k : α → Option (β × Mem)} {z : α} (e : o = some z) (h : an v (k z)) : an v (o.bind k) := by rw [e]; exact h
theorem an_bb {α β : Type} {u : α} {v : β} {o : Option (α × Mem)} {k : α × Mem → Option (β × Mem)} (h : an u o) (hk : ∀ M', an v (k (u, M'))) : an v (o.bind k) := by
  obtain ⟨M', rfl⟩ := h
  exact hk M'
theorem an_bnd {α β : Type} {v : β} {x : α} {k : α → Option (β × Mem)} (h : an v (k x)) : an v (bnd x k) := h
theorem an_stp {α : Type} [DecidableEq α] {v : α} {oX oY : Option (α × Mem)} (hX : an v oX) (hY : an v oY) : ∃ Z : Mem × Mem, (oX.bind fun zx => oY.bind fun zy => if zx.1 = zy.1 then some (zx.2, zy.2) else none) = some Z := by
  obtain ⟨MX, rfl⟩ := hX
  obtain ⟨MY, rfl⟩ := hY
  refine ⟨(MX, MY), ?_⟩
  show (if v = v then some (MX, MY) else none) = some (MX, MY)
  exact if_pos rfl
theorem getD_of {α : Type} {o : Option α} {d : α} (h : o.isSome = true) : o = some (o.getD d) := by
  cases o with
  | none => cases h
  | some z => rfl
theorem one_ne {M : Mem} : ¬ ((1 : Int32), M).1 = 0 := (by decide +kernel : ¬ (1 : Int32) = 0)
theorem m1_lt {M : Mem} : ((-1 : Int32), M).1 < 0 := (by decide +kernel : (-1 : Int32) < 0)
theorem lp {α : Type} (F : α → α) (z : α) (n : Nat) : loopN F z (n + 1) = F (loopN F z n) := rfl
theorem lp200 {α : Type} {F : α → α} {z : α} : loopN F z 200 = F (loopN F z 199) := lp F z 199
theorem lp199 {α : Type} {F : α → α} {z : α} : loopN F z 199 = F (loopN F z 198) := lp F z 198
theorem lp198 {α : Type} {F : α → α} {z : α} : loopN F z 198 = F (loopN F z 197) := lp F z 197
theorem lp197 {α : Type} {F : α → α} {z : α} : loopN F z 197 = F (loopN F z 196) := lp F z 196
theorem lp196 {α : Type} {F : α → α} {z : α} : loopN F z 196 = F (loopN F z 195) := lp F z 195
-- numbers
theorem zero_le0 : (0 : Int32) ≤ 0 := by decide +kernel
theorem oob02 : ¬ oob (0 : Int32) 2 := by decide +kernel
theorem oob022 : ¬ oob (0 : Int32) 22 := by decide +kernel
theorem oob122 : ¬ oob (1 : Int32) 22 := by decide +kernel
theorem clamp0 : Int32.toNatClampNeg 0 = 0 := by decide +kernel
theorem i0_toInt : (0 : Int32).toInt = 0 := by decide +kernel
theorem im1_toInt : (-1 : Int32).toInt = -1 := by decide +kernel
theorem i1_toInt : (1 : Int32).toInt = 1 := by decide +kernel
theorem neg1_lt {x : Int32} (h : ¬ x < 0) : (-1 : Int32) < x := by
  rw [Int32.lt_iff_toInt_lt, i0_toInt] at h
  rw [Int32.lt_iff_toInt_lt, im1_toInt]
  omega
theorem pos_of {x : Int32} (h : ¬ x < 0) (h0 : ¬ x = 0) : (1 : Int32) ≤ x ∧ (0 : Int32) < x := by
  have h9 : ¬ x.toInt = 0 := fun e => h0 (Int32.toInt_inj.mp (e.trans i0_toInt.symm))
  rw [Int32.lt_iff_toInt_lt, i0_toInt] at h
  rw [Int32.le_iff_toInt_le, Int32.lt_iff_toInt_lt, i0_toInt, i1_toInt]
  omega
theorem lt_of_s {n : Nat} {x : Int32} (hn : n + 1 < 2 ^ 31) (h : nI (n + 1) ≤ x) : nI n < x := by
  rw [Int32.lt_iff_toInt_lt, nI_toInt (by omega)]
  rw [Int32.le_iff_toInt_le, nI_toInt hn] at h
  omega
theorem i01 : (0 : Int32) - 1 = -1 := by decide +kernel
-- X
theorem xt0 {n0 q : Nat} {c : Int32} {M : Mem} (h : gI M (128 * q + 1) = 0) : fX9_isThing n0 q c M = some (0, M) := by
  unfold fX9_isThing
  by_cases h1 : c < 0
  · rw [if_pos h1]
  · rw [if_neg h1, h, if_pos (Int32.not_lt.mp h1)]
theorem xc0 {n0 q : Nat} {c : Int32} {M : Mem} (h : gI M (128 * q + 5) = 0) : fX9_isCorner n0 q c M = some (0, M) := by
  unfold fX9_isCorner
  by_cases h1 : c < 0
  · rw [if_pos h1]
  · rw [if_neg h1, h, if_pos (Int32.not_lt.mp h1)]
theorem xd0 {n0 q : Nat} {c : Int32} {M : Mem} (h : gI M (128 * q + 12) = 0) : fX9_isDoing n0 q c M = some (0, M) := by
  unfold fX9_isDoing
  by_cases h1 : c < 0
  · rw [if_pos h1]
  · rw [if_neg h1, h, if_pos (Int32.not_lt.mp h1)]
theorem x_ref {n0 : Nat} {k : Int32} {M : Mem} (h1 : ¬ k < 0) (h2 : ¬ (6 : Int32) ≤ k) (h3 : ¬ oob k 6) : an (-1) (fX11_refuse n0 k M) := by
  unfold fX11_refuse
  exact an_f h1 (an_f h2 (an_f h3 (an_f h3 an_some)))
section FX
variable {n0 : Nat} {M : Mem} {a b c : Int32}
theorem x_letter (h1 : gI M (128 * gR M 1 + 1) = 0) (h5 : gI M (128 * gR M 1 + 5) = 0) (h12 : gI M (128 * gR M 1 + 12) = 0) : an (-1) (fX11_letter n0 a b c M) := by
  unfold fX11_letter
  exact an_ite (fun _ => an_some) (fun _ => an_ite (fun _ => an_ite (fun _ => an_b (xt0 h1) (an_t rfl an_some)) (fun _ => an_ite (fun _ => an_b (xc0 h5) (an_t rfl an_some)) (fun _ => an_ite (fun _ => an_b (xd0 h12) (an_t rfl an_some)) (fun _ => an_some)))) (fun _ => an_some))
theorem x_thing (h1 : gI M (128 * gR M 1 + 1) = 0) : an (-1) (fX11_thing n0 a b M) := by
  unfold fX11_thing
  exact an_b (xt0 h1) (an_t rfl an_some)
theorem x_corner (h5 : gI M (128 * gR M 1 + 5) = 0) : an (-1) (fX11_corner n0 a b M) := by
  unfold fX11_corner
  exact an_b (xc0 h5) (an_t rfl an_some)
theorem x_doing (h12 : gI M (128 * gR M 1 + 12) = 0) : an (-1) (fX11_doing n0 a b M) := by
  unfold fX11_doing
  exact an_b (xd0 h12) (an_t rfl an_some)
theorem x_later (h5 : gI M (128 * gR M 1 + 5) = 0) : an (-1) (fX11_later n0 a b M) := by
  unfold fX11_later
  exact an_b (xc0 h5) (an_t rfl an_some)
theorem x_when (h12 : gI M (128 * gR M 1 + 12) = 0) : an (-1) (fX11_when n0 a M) := by
  unfold fX11_when
  exact an_b (xd0 h12) (an_t rfl an_some)
theorem x_alike (h5 : gI M (128 * gR M 1 + 5) = 0) : an (-1) (fX11_alike n0 a b M) := by
  unfold fX11_alike
  exact an_b (xc0 h5) (an_t rfl an_some)
theorem x_evening (h5 : gI M (128 * gR M 1 + 5) = 0) : an (-1) (fX11_evening n0 a b M) := by
  unfold fX11_evening
  exact an_b (xc0 h5) (an_t rfl an_some)
theorem x_odds (h5 : gI M (128 * gR M 1 + 5) = 0) : an (-1) (fX11_odds n0 a b c M) := by
  unfold fX11_odds
  exact an_b (xc0 h5) (an_t rfl an_some)
theorem x_way (h5 : gI M (128 * gR M 1 + 5) = 0) : an (-1) (fX11_way n0 a b M) := by
  unfold fX11_way
  exact an_b (xc0 h5) (an_t rfl an_some)
theorem x_arrive (h5 : gI M (128 * gR M 1 + 5) = 0) : an (-1) (fX11_arrive n0 a b M) := by
  unfold fX11_arrive
  exact an_b (xc0 h5) (an_t rfl an_some)
theorem x_early (h5 : gI M (128 * gR M 1 + 5) = 0) : an (-1) (fX11_early n0 a M) := by
  unfold fX11_early
  exact an_b (xc0 h5) (an_t rfl an_some)
theorem x_held (h5 : gI M (128 * gR M 1 + 5) = 0) : an (-1) (fX11_held n0 a M) := by
  unfold fX11_held
  exact an_b (xc0 h5) (an_t rfl an_some)
theorem x_tells (h5 : gI M (128 * gR M 1 + 5) = 0) : an (-1) (fX11_tells n0 a b M) := by
  unfold fX11_tells
  exact an_b (xc0 h5) (an_t rfl an_some)
theorem x_give (h5 : gI M (128 * gR M 1 + 5) = 0) : an (-1) (fX11_give n0 a b M) := by
  unfold fX11_give fX11_give_22
  exact an_b (xc0 h5) (an_t rfl (an_bb (x_ref (by decide +kernel) (by decide +kernel) (by decide +kernel)) (fun _ => an_some)))
theorem x_take (h5 : gI M (128 * gR M 1 + 5) = 0) : an (-1) (fX11_take n0 a M) := by
  unfold fX11_take fX11_take_24
  exact an_b (xc0 h5) (an_t rfl (an_bb (x_ref (by decide +kernel) (by decide +kernel) (by decide +kernel)) (fun _ => an_some)))
theorem x_end0 (h : gI M 641 = 0) (ha : ¬ (¬ a < 0 ∧ a ≤ 0)) : an 0 (fX11_end n0 a M) := by
  unfold fX11_end fX11_end_15
  rw [h]
  exact an_ite (fun _ => an_bb (x_ref (by decide +kernel) (by decide +kernel) (by decide +kernel)) (fun _ => an_some)) (fun h1 => an_f (fun h2 => ha ⟨h1, h2⟩) (an_bb (x_ref (by decide +kernel) (by decide +kernel) (by decide +kernel)) (fun _ => an_some)))
theorem x_end1 (h : gI M 641 = 0) (h1 : ¬ a < 0) (h2 : a ≤ 0) : an 1 (fX11_end n0 a M) := by
  unfold fX11_end
  rw [h]
  exact an_f h1 (an_t h2 (an_bnd an_some))
theorem x_seed0 (h : ¬ (0 : Int32) ≤ a) : an 0 (fX11_seed n0 a M) := by
  unfold fX11_seed
  exact an_f h (an_bb (x_ref (by decide +kernel) (by decide +kernel) (by decide +kernel)) (fun _ => an_some))
theorem x_seed1 (h : (0 : Int32) ≤ a) : an 1 (fX11_seed n0 a M) := by
  unfold fX11_seed
  exact an_t h (an_bnd an_some)
theorem x_kept (h : gI M 1285 = 0) : an (-1) (fX11_kept n0 a b M) := by
  unfold fX11_kept
  rw [h]
  exact an_ite (fun _ => an_some) (fun h1 => an_f h1 an_some)
theorem x_octet (h : gI M 14 = 0) : an (-1) (fX11_octet n0 a M) := by
  unfold fX11_octet
  rw [h]
  exact an_ite (fun _ => an_some) (fun h1 => an_t (Int32.not_lt.mp h1) an_some)
end FX
-- the tape: five numbers
theorem x_add1 {k : Int32 → Int32 → Mem → Option Mem} {x y v : Int32} {M : Mem} (hl : gI M 641 = v) (hy : ¬ y < 0) (h1 : ¬ (1600 : Int32) ≤ v) (h2 : ¬ oob v 1600) : ∃ M', gI M' 641 = v + 1 ∧ bX7_addNumber_3 200 k x y M = k x (y + (-8)) M' := by
  refine ⟨sI (sA M 6 (Int32.toNatClampNeg v) ((x >>> (y &&& 31)) &&& 255)) 641 (v + 1), by rw [gI_sI, if_pos rfl], ?_⟩
  rw [bX7_addNumber_3, if_neg hy, hl, if_neg h1, if_neg h2]
  show k x (y + (-8)) (sI (sA M 6 (Int32.toNatClampNeg v) ((x >>> (y &&& 31)) &&& 255)) 641 (gI M 641 + 1)) = _
  rw [hl]
theorem x_add {x v : Int32} {M : Mem} (hl : gI M 641 = v) (h : (¬ (1600 : Int32) ≤ v ∧ ¬ oob v 1600) ∧ (¬ (1600 : Int32) ≤ v + 1 ∧ ¬ oob (v + 1) 1600) ∧ (¬ (1600 : Int32) ≤ v + 1 + 1 ∧ ¬ oob (v + 1 + 1) 1600) ∧ (¬ (1600 : Int32) ≤ v + 1 + 1 + 1 ∧ ¬ oob (v + 1 + 1 + 1) 1600)) : ∃ M', fX7_addNumber 200 x M = some M' ∧ gI M' 641 = v + 1 + 1 + 1 + 1 := by
  obtain ⟨ha, hb, hc, hd⟩ := h
  obtain ⟨M1, e1, q1⟩ := x_add1 (k := loopN (bX7_addNumber_3 200) (fun _ _ _ => none) 199) (x := x) (y := 24) hl (by decide +kernel) ha.1 ha.2
  obtain ⟨M2, e2, q2⟩ := x_add1 (k := loopN (bX7_addNumber_3 200) (fun _ _ _ => none) 198) (x := x) (y := 24 + (-8)) e1 (by decide +kernel) hb.1 hb.2
  obtain ⟨M3, e3, q3⟩ := x_add1 (k := loopN (bX7_addNumber_3 200) (fun _ _ _ => none) 197) (x := x) (y := 24 + (-8) + (-8)) e2 (by decide +kernel) hc.1 hc.2
  obtain ⟨M4, e4, q4⟩ := x_add1 (k := loopN (bX7_addNumber_3 200) (fun _ _ _ => none) 196) (x := x) (y := 24 + (-8) + (-8) + (-8)) e3 (by decide +kernel) hd.1 hd.2
  refine ⟨M4, ?_, e4⟩
  unfold fX7_addNumber fX7_addNumber_3
  rw [lp200, q1, lp199, q2, lp198, q3, lp197, q4, lp196]
  rw [bX7_addNumber_3, if_pos (by decide +kernel)]
theorem y_put1 {k : Int32 → Int32 → Mem → Option Mem} {x y v : Int32} {M : Mem} (hl : gI M 1 = v) (hy : ¬ y < 0) (h2 : ¬ oob v 1800) : ∃ M', gI M' 1 = v + 1 ∧ bX12_put_3 200 k x y M = k x (y + (-8)) M' := by
  refine ⟨sI (sA M 1 (Int32.toNatClampNeg v) ((x >>> (y &&& 31)) &&& 255)) 1 (v + 1), by rw [gI_sI, if_pos rfl], ?_⟩
  rw [bX12_put_3, if_neg hy, hl, if_neg h2]
  show k x (y + (-8)) (sI (sA M 1 (Int32.toNatClampNeg v) ((x >>> (y &&& 31)) &&& 255)) 1 (gI M 1 + 1)) = _
  rw [hl]
theorem y_put {x v : Int32} {M : Mem} (hl : gI M 1 = v) (h : ¬ oob v 1800 ∧ ¬ oob (v + 1) 1800 ∧ ¬ oob (v + 1 + 1) 1800 ∧ ¬ oob (v + 1 + 1 + 1) 1800) : ∃ M', fX12_put 200 x M = some M' ∧ gI M' 1 = v + 1 + 1 + 1 + 1 := by
  obtain ⟨ha, hb, hc, hd⟩ := h
  obtain ⟨M1, e1, q1⟩ := y_put1 (k := loopN (bX12_put_3 200) (fun _ _ _ => none) 199) (x := x) (y := 24) hl (by decide +kernel) ha
  obtain ⟨M2, e2, q2⟩ := y_put1 (k := loopN (bX12_put_3 200) (fun _ _ _ => none) 198) (x := x) (y := 24 + (-8)) e1 (by decide +kernel) hb
  obtain ⟨M3, e3, q3⟩ := y_put1 (k := loopN (bX12_put_3 200) (fun _ _ _ => none) 197) (x := x) (y := 24 + (-8) + (-8)) e2 (by decide +kernel) hc
  obtain ⟨M4, e4, q4⟩ := y_put1 (k := loopN (bX12_put_3 200) (fun _ _ _ => none) 196) (x := x) (y := 24 + (-8) + (-8) + (-8)) e3 (by decide +kernel) hd
  refine ⟨M4, ?_, e4⟩
  unfold fX12_put fX12_put_3
  rw [lp200, q1, lp199, q2, lp198, q3, lp197, q4, lp196]
  rw [bX12_put_3, if_pos (by decide +kernel)]
theorem x_feed {M : Mem} {a b c d e : Int32} (hr : fX7_hasRoomFor 200 20 M = some (1, M)) (h : gI M 641 = 0) : an 20 (fX11_feed 200 a b c d e M) := by
  obtain ⟨M1, q1, e1⟩ := x_add (x := a) h (by decide +kernel)
  obtain ⟨M2, q2, e2⟩ := x_add (x := b) e1 (by decide +kernel)
  obtain ⟨M3, q3, e3⟩ := x_add (x := c) e2 (by decide +kernel)
  obtain ⟨M4, q4, e4⟩ := x_add (x := d) e3 (by decide +kernel)
  obtain ⟨M5, q5, e5⟩ := x_add (x := e) e4 (by decide +kernel)
  unfold fX11_feed
  refine an_b hr (an_f one_ne (an_b q1 (an_b q2 (an_b q3 (an_b q4 (an_b q5 ?_))))))
  rw [e5]
  exact an_some
theorem y_feed {M : Mem} {a b c d e : Int32} (h : gI M 1 = 0) : an 20 (fX12_feed 200 a b c d e M) := by
  obtain ⟨M1, q1, e1⟩ := y_put (x := a) h (by decide +kernel)
  obtain ⟨M2, q2, e2⟩ := y_put (x := b) e1 (by decide +kernel)
  obtain ⟨M3, q3, e3⟩ := y_put (x := c) e2 (by decide +kernel)
  obtain ⟨M4, q4, e4⟩ := y_put (x := d) e3 (by decide +kernel)
  obtain ⟨M5, q5, e5⟩ := y_put (x := e) e4 (by decide +kernel)
  unfold fX12_feed
  rw [h]
  refine an_t (by decide +kernel) (an_b q1 (an_b q2 (an_b q3 (an_b q4 (an_b q5 ?_)))))
  rw [e5]
  exact an_some
-- Y
theorem yt0 {n0 : Nat} {c : Int32} {M : Mem} (h13 : gI M 13 = 0) (h : gA M 2 0 = 0) : fX12_isThing n0 c M = some (0, M) := by
  unfold fX12_isThing
  by_cases h1 : c < 0
  · rw [if_pos h1]
  · rw [if_neg h1, h13, if_neg oob02, clamp0, h, if_pos (Int32.not_lt.mp h1)]
theorem yc0 {n0 : Nat} {c : Int32} {M : Mem} (h13 : gI M 13 = 0) (h : gA M 5 0 = 0) : fX12_isCorner n0 c M = some (0, M) := by
  unfold fX12_isCorner
  by_cases h1 : c < 0
  · rw [if_pos h1]
  · rw [if_neg h1, h13, if_neg oob02, clamp0, h, if_pos (Int32.not_lt.mp h1)]
theorem yd0 {n0 : Nat} {c : Int32} {M : Mem} (h13 : gI M 13 = 0) (h : gA M 10 0 = 0) : fX12_isDoing n0 c M = some (0, M) := by
  unfold fX12_isDoing
  by_cases h1 : c < 0
  · rw [if_pos h1]
  · rw [if_neg h1, h13, if_neg oob02, clamp0, h, if_pos (Int32.not_lt.mp h1)]
theorem y_is0 {n0 : Nat} {x lo hi : Int32} {M : Mem} (h : x < lo ∨ hi < x) : fX12_is n0 x lo hi M = some (0, M) := by
  unfold fX12_is
  by_cases h1 : x < lo
  · rw [if_pos h1]
  · rw [if_neg h1, if_pos (h.resolve_left h1)]
theorem y_is1 {n0 : Nat} {x lo hi : Int32} {M : Mem} (h1 : ¬ x < lo) (h2 : ¬ hi < x) : fX12_is n0 x lo hi M = some (1, M) := by
  unfold fX12_is
  rw [if_neg h1, if_neg h2]
theorem y_ref {n0 : Nat} {k : Int32} {M : Mem} (h3 : ¬ oob k 6) : an (-1) (fX12_refuses n0 k M) := by
  unfold fX12_refuses
  exact an_f h3 (an_f h3 (an_bnd an_some))
section FY
variable {n0 : Nat} {M : Mem} {a b c : Int32}
theorem y_many (h13 : gI M 13 = 0) (h2 : gA M 2 0 = 0) (h5 : gA M 5 0 = 0) (h10 : gA M 10 0 = 0) : fX12_manyOf n0 (gI M 13) a M = some (0, M) := by
  unfold fX12_manyOf
  rw [h13]
  by_cases q : a = 0
  · rw [if_pos q, if_neg oob02, clamp0, h2]
  by_cases q1 : a = 1
  · rw [if_neg q, if_pos q1, if_neg oob02, clamp0, h5]
  · rw [if_neg q, if_neg q1, if_neg oob02, clamp0, h10]
theorem y_letter (h13 : gI M 13 = 0) (h2 : gA M 2 0 = 0) (h5 : gA M 5 0 = 0) (h10 : gA M 10 0 = 0) : an (-1) (fX12_letter n0 a b c M) := by
  unfold fX12_letter
  by_cases h : a < 0 ∨ 2 < a
  · exact an_b (y_is0 h) (an_t rfl an_some)
  · refine an_b (y_is1 (fun q => h (Or.inl q)) (fun q => h (Or.inr q))) (an_f one_ne (an_b (y_many h13 h2 h5 h10) ?_))
    by_cases hb : b < 0
    · exact an_b (y_is0 (Or.inl hb)) (an_t rfl an_some)
    · exact an_b (y_is0 (Or.inr (by show (0 : Int32) - 1 < b; rw [i01]; exact neg1_lt hb))) (an_t rfl an_some)
theorem y_thing (h13 : gI M 13 = 0) (h2 : gA M 2 0 = 0) : an (-1) (fX12_thing n0 a b M) := by
  unfold fX12_thing
  exact an_b (yt0 h13 h2) (an_t rfl an_some)
theorem y_corner (h13 : gI M 13 = 0) (h5 : gA M 5 0 = 0) : an (-1) (fX12_corner n0 a b M) := by
  unfold fX12_corner
  exact an_b (yc0 h13 h5) (an_t rfl an_some)
theorem y_doing (h13 : gI M 13 = 0) (h10 : gA M 10 0 = 0) : an (-1) (fX12_doing n0 a b M) := by
  unfold fX12_doing
  exact an_b (yd0 h13 h10) (an_t rfl an_some)
theorem y_later (h13 : gI M 13 = 0) (h5 : gA M 5 0 = 0) : an (-1) (fX12_later n0 a b M) := by
  unfold fX12_later
  exact an_b (yc0 h13 h5) (an_t rfl an_some)
theorem y_when (h13 : gI M 13 = 0) (h10 : gA M 10 0 = 0) : an (-1) (fX12_when n0 a M) := by
  unfold fX12_when
  exact an_b (yd0 h13 h10) (an_t rfl an_some)
theorem y_alike (h13 : gI M 13 = 0) (h5 : gA M 5 0 = 0) : an (-1) (fX12_alike n0 a b M) := by
  unfold fX12_alike
  exact an_b (yc0 h13 h5) (an_t rfl an_some)
theorem y_evening (h13 : gI M 13 = 0) (h5 : gA M 5 0 = 0) : an (-1) (fX12_evening n0 a b M) := by
  unfold fX12_evening
  exact an_b (yc0 h13 h5) (an_t rfl an_some)
theorem y_odds (h13 : gI M 13 = 0) (h5 : gA M 5 0 = 0) : an (-1) (fX12_odds n0 a b c M) := by
  unfold fX12_odds
  exact an_b (yc0 h13 h5) (an_t rfl an_some)
theorem y_way (h13 : gI M 13 = 0) (h5 : gA M 5 0 = 0) : an (-1) (fX12_way n0 a b M) := by
  unfold fX12_way
  exact an_b (yc0 h13 h5) (an_t rfl an_some)
theorem y_arrive (h13 : gI M 13 = 0) (h5 : gA M 5 0 = 0) : an (-1) (fX12_arrive n0 a b M) := by
  unfold fX12_arrive
  exact an_bb (y_way h13 h5) (fun _ => an_t rfl an_some)
theorem y_early (h13 : gI M 13 = 0) (h5 : gA M 5 0 = 0) : an (-1) (fX12_early n0 a M) := by
  unfold fX12_early
  exact an_b (yc0 h13 h5) (an_t rfl an_some)
theorem y_held (h13 : gI M 13 = 0) (h5 : gA M 5 0 = 0) : an (-1) (fX12_held n0 a M) := by
  unfold fX12_held
  exact an_b (yc0 h13 h5) (an_t rfl an_some)
theorem y_tells (h13 : gI M 13 = 0) (h5 : gA M 5 0 = 0) : an (-1) (fX12_tells n0 a b M) := by
  unfold fX12_tells
  exact an_b (yc0 h13 h5) (an_t rfl an_some)
theorem y_give (h13 : gI M 13 = 0) (h5 : gA M 5 0 = 0) : an (-1) (fX12_give n0 a b M) := by
  unfold fX12_give fX12_give_16
  exact an_b (yc0 h13 h5) (an_t rfl (an_bb (y_ref (by decide +kernel)) (fun _ => an_some)))
theorem y_take (h13 : gI M 13 = 0) (h5 : gA M 5 0 = 0) : an (-1) (fX12_take n0 a M) := by
  unfold fX12_take fX12_take_18
  exact an_b (yc0 h13 h5) (an_t rfl (an_bb (y_ref (by decide +kernel)) (fun _ => an_some)))
theorem y_end0 (h : gI M 1 = 0) (ha : ¬ (¬ a < 0 ∧ a ≤ 0)) : an 0 (fX12_end n0 a M) := by
  unfold fX12_end fX12_end_12
  rw [h]
  exact an_ite (fun _ => an_bb (y_ref (by decide +kernel)) (fun _ => an_t m1_lt an_some)) (fun h1 => an_f (fun h2 => ha ⟨h1, h2⟩) (an_bb (y_ref (by decide +kernel)) (fun _ => an_t m1_lt an_some)))
theorem y_end1 (h : gI M 1 = 0) (h1 : ¬ a < 0) (h2 : a ≤ 0) : an 1 (fX12_end n0 a M) := by
  unfold fX12_end
  rw [h]
  exact an_f h1 (an_t h2 (an_bnd an_some))
theorem y_seed0 (h : ¬ (0 : Int32) ≤ a) : an 0 (fX12_seed n0 a M) := by
  unfold fX12_seed
  exact an_f h (an_bb (y_ref (by decide +kernel)) (fun _ => an_t m1_lt an_some))
theorem y_seed1 (h : (0 : Int32) ≤ a) : an 1 (fX12_seed n0 a M) := by
  unfold fX12_seed
  exact an_t h (an_bnd an_some)
theorem y_kept (h : gA M 32 0 = 0) : an (-1) (fX12_kept n0 a b M) := by
  unfold fX12_kept
  rw [if_neg oob022, clamp0, h, i01]
  by_cases ha : a < 0
  · exact an_b (y_is0 (Or.inl ha)) (an_t rfl an_some)
  · exact an_b (y_is0 (Or.inr (neg1_lt ha))) (an_t rfl an_some)
theorem y_octet (h : gI M 67 = 0) : an (-1) (fX12_octet n0 a M) := by
  unfold fX12_octet
  rw [h, i01]
  by_cases ha : a < 0
  · exact an_b (y_is0 (Or.inl ha)) (an_t rfl an_some)
  · exact an_b (y_is0 (Or.inr (neg1_lt ha))) (an_t rfl an_some)
end FY
