/-! FLOORS ON BOTH SIDES -/
theorem tmod_m {a b : Int} (ha : mR a) : mR (a - a.tdiv b * b) := by
  have h := Int.natAbs_tmod a b
  have h2 := Nat.mod_le a.natAbs b.natAbs
  have h3 := Int.tmod_def a b
  rw [Int.mul_comm] at h3
  unfold mR at ha ⊢
  rw [h3] at h
  omega
abbrev sSame (a b : Int) : Prop := a - a.tdiv b * b = 0 ∨ (0 ≤ a ↔ 0 ≤ b)
def flr (a b : Int) : Int := if b = 0 then 0 else if sSame a b then a.tdiv b else a.tdiv b - 1
theorem flr_l {a b : Int} (ha : mR a) : lR (flr a b) := by
  have h := tdiv_m (b := b) ha
  unfold flr lR
  unfold mR at h
  split
  · omega
  · split <;> omega
theorem mR.l {a : Int} (h : mR a) : lR a := by unfold mR at h; unfold lR; omega
theorem yfloor {n0 : Nat} {a b : Int} {M : Mem} (ha : mR a) (hb : mR b) : fX12_floor n0 (zL a) (zL b) M = some (zL (flr a b), M) := by
  have r0 : lR 0 := by unfold lR; omega
  have cb0 := lgc_eq hb.l r0
  have cb := lgc_ge hb.l r0
  have ca := lgc_ge ha.l r0
  have er : rem64 (zL a) (zL b) = zL (a - a.tdiv b * b) := by
    unfold rem64
    rw [zL_div ha hb, zL_mul, zL_sub]
  have cr := lgc_eq (tmod_m (b := b) ha).l r0
  have e0 : zL b = 0 ↔ b = 0 := by
    rw [zl0]
    have := hb.l
    unfold lR at this
    exact zL_eq (by omega) (by omega) (by omega) (by omega)
  unfold fX12_floor flr
  rw [er, zL_div ha hb]
  by_cases g : b = 0
  · rw [if_pos g, if_pos (by rw [zl0]; exact cb0.mpr g), ← zl0]
  · have gn : ¬ zL b = 0 := fun z => g (e0.mp z)
    rw [if_neg g, if_neg (by rw [zl0]; exact fun z => g (cb0.mp z))]
    refine eq_f gn (eq_n (eq_f gn ?_))
    rw [zl0]
    by_cases g1 : a - a.tdiv b * b = 0
    · rw [if_pos (show sSame a b from Or.inl g1)]
      exact eq_t (cr.mpr g1) rfl
    · refine eq_f (fun z => g1 (cr.mp z)) ?_
      unfold fX12_floor_32 fX12_floor_43
      rw [zl0]
      by_cases g2 : 0 ≤ a
      · refine eq_t (ca.mpr g2) ?_
        by_cases g3 : 0 ≤ b
        · rw [if_pos (show sSame a b from Or.inr ⟨fun _ => g3, fun _ => g2⟩)]
          exact eq_t (cb.mpr g3) (eq_t rfl rfl)
        · rw [if_neg (show ¬ sSame a b from fun z => z.elim g1 (fun y => g3 (y.mp g2)))]
          refine eq_f (fun z => g3 (cb.mp z)) (eq_f (by decide) ?_)
          rw [zl1, zL_sub]
      · refine eq_f (fun z => g2 (ca.mp z)) ?_
        by_cases g3 : 0 ≤ b
        · rw [if_neg (show ¬ sSame a b from fun z => z.elim g1 (fun y => g2 (y.mpr g3)))]
          refine eq_t (cb.mpr g3) (eq_f (by decide) ?_)
          rw [zl1, zL_sub]
        · rw [if_pos (show sSame a b from Or.inr ⟨fun h => absurd h g2, fun h => absurd h g3⟩)]
          exact eq_f (fun z => g3 (cb.mp z)) (eq_t rfl rfl)
theorem zi0 : (0 : Int32) = zI 0 := by decide
theorem zi1 : (1 : Int32) = zI 1 := by decide
theorem mR.i {a : Int} (h : mR a) : -2147483648 ≤ a ∧ a ≤ 2147483647 := by unfold mR at h; omega
theorem zI_nn {a : Int} (h : mR a) : 0 ≤ zI a ↔ 0 ≤ a := by
  rw [zi0]
  exact zI_le (by omega) (by omega) h.i.1 h.i.2
theorem zI_z {a : Int} (h : mR a) : zI a = 0 ↔ a = 0 := by
  rw [zi0]
  exact zI_eq h.i.1 h.i.2 (by omega) (by omega)
theorem xfloorDiv {n0 : Nat} {a b : Int} {M : Mem} (ha : mR a) (hb : mR b) (h0 : ¬ b = 0) : fJ9_floorDiv_7cf53 n0 (zI a) (zI b) M = some (zI (flr a b), M) := by
  have ct : zI a / zI b * zI b = zI a ↔ a - a.tdiv b * b = 0 := by
    have m := tmod_m (b := b) ha
    have i := ha.i
    unfold mR at m ha
    rw [zI_div ha hb, zI_mul, zI_eq (by omega) (by omega) i.1 i.2]
    omega
  unfold fJ9_floorDiv_7cf53 flr
  refine eq_f (fun z => h0 ((zI_z hb).mp z)) (eq_n ?_)
  rw [if_neg h0]
  by_cases g : 0 ≤ zI a ^^^ zI b
  · rw [if_pos (show sSame a b from Or.inr (by rw [← zI_nn ha, ← zI_nn hb]; exact xsign.mp g))]
    refine eq_t g ?_
    rw [zI_div ha hb]
  · refine eq_f g ?_
    by_cases g1 : a - a.tdiv b * b = 0
    · rw [if_pos (show sSame a b from Or.inl g1)]
      refine eq_t (ct.mpr g1) ?_
      rw [zI_div ha hb]
    · rw [if_neg (show ¬ sSame a b from fun z => z.elim g1 (fun y => g (xsign.mpr (by rw [zI_nn ha, zI_nn hb]; exact y))))]
      refine eq_f (fun z => g1 (ct.mp z)) ?_
      rw [zI_div ha hb, zi1, zI_sub]
theorem xfloorMod {n0 : Nat} {a b : Int} {M : Mem} (ha : mR a) (hb : mR b) (h0 : ¬ b = 0) : fJ9_floorMod_7cf53 n0 (zI a) (zI b) M = some (zI (a - b * flr a b), M) := by
  have er : rem32 (zI a) (zI b) = zI (a - a.tdiv b * b) := by
    unfold rem32
    rw [zI_div ha hb, zI_mul, zI_sub]
  have m := tmod_m (b := b) ha
  unfold fJ9_floorMod_7cf53 flr
  rw [er]
  refine eq_f (fun z => h0 ((zI_z hb).mp z)) (eq_n ?_)
  rw [if_neg h0]
  by_cases g : 0 ≤ zI a ^^^ zI b
  · rw [if_pos (show sSame a b from Or.inr (by rw [← zI_nn ha, ← zI_nn hb]; exact xsign.mp g)), Int.mul_comm]
    exact eq_t g rfl
  · refine eq_f g ?_
    by_cases g1 : a - a.tdiv b * b = 0
    · rw [if_pos (show sSame a b from Or.inl g1), Int.mul_comm b]
      exact eq_t ((zI_z m).mpr g1) rfl
    · rw [if_neg (show ¬ sSame a b from fun z => z.elim g1 (fun y => g (xsign.mpr (by rw [zI_nn ha, zI_nn hb]; exact y))))]
      refine eq_f (fun z => g1 ((zI_z m).mp z)) ?_
      rw [zI_add, Int.mul_sub, Int.mul_comm b (a.tdiv b), Int.mul_one, show a - a.tdiv b * b + b = a - (a.tdiv b * b - b) by omega]
