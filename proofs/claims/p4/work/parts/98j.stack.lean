/-! WHAT WAITS, ON BOTH SIDES -/
def Stk : List Bool → (Nat → Int32) → (Nat → Int64) → Prop
  | [], _, _ => True
  | t :: st, x, y => (∃ a, x st.length = zI a ∧ y st.length = zL a ∧ mR a ∧ (t = true → bR a)) ∧ Stk st x y
theorem Stk.cong : ∀ {st : List Bool} {x x' : Nat → Int32} {y y' : Nat → Int64}, Stk st x y → (∀ i, i < st.length → x' i = x i) → (∀ i, i < st.length → y' i = y i) → Stk st x' y'
  | [], _, _, _, _, _, _, _ => trivial
  | t :: st, x, x', y, y', h, h1, h2 => by
    obtain ⟨⟨a, a1, a2, a3, a4⟩, h⟩ := h
    have l : (t :: st).length = st.length + 1 := rfl
    exact ⟨⟨a, (h1 _ (by omega)).trans a1, (h2 _ (by omega)).trans a2, a3, a4⟩, Stk.cong h (fun i hi => h1 i (by omega)) (fun i hi => h2 i (by omega))⟩
/-- what the class may change while it reckons -/
def VX (M M' : Mem) : Prop := gR M' = gR M ∧ gL M' = gL M ∧ gB M' = gB M ∧ (∀ a, ¬ a = 9 → gA M' a = gA M a) ∧ ∀ k, ¬ k = 903 → gI M' k = gI M k
theorem VX.r {M : Mem} : VX M M := ⟨rfl, rfl, rfl, fun _ _ => rfl, fun _ _ => rfl⟩
theorem VX.tr {M M' M2 : Mem} (h : VX M M') (g : VX M' M2) : VX M M2 := ⟨g.1.trans h.1, g.2.1.trans h.2.1, g.2.2.1.trans h.2.2.1, fun a z => (g.2.2.2.1 a z).trans (h.2.2.2.1 a z), fun a z => (g.2.2.2.2 a z).trans (h.2.2.2.2 a z)⟩
theorem VX.i {M M' : Mem} {v : Int32} (h : VX M M') : VX M (sI M' 903 v) := ⟨h.1, h.2.1, h.2.2.1, h.2.2.2.1, fun k z => (gI_ne z).trans (h.2.2.2.2 k z)⟩
theorem VX.a {M M' : Mem} {i : Nat} {v : Int32} (h : VX M M') : VX M (sA M' 9 i v) := ⟨h.1, h.2.1, h.2.2.1, fun a z => (gA_sA_ne z).trans (h.2.2.2.1 a z), h.2.2.2.2⟩
/-- what the reference may change while it reckons -/
def VY (M M' : Mem) : Prop := gR M' = gR M ∧ gL M' = gL M ∧ gA M' = gA M ∧ gI M' = gI M ∧ ∀ a, ¬ a = 34 → gB M' a = gB M a
theorem VY.r {M : Mem} : VY M M := ⟨rfl, rfl, rfl, rfl, fun _ _ => rfl⟩
theorem VY.tr {M M' M2 : Mem} (h : VY M M') (g : VY M' M2) : VY M M2 := ⟨g.1.trans h.1, g.2.1.trans h.2.1, g.2.2.1.trans h.2.2.1, g.2.2.2.1.trans h.2.2.2.1, fun a z => (g.2.2.2.2 a z).trans (h.2.2.2.2 a z)⟩
theorem VY.b {M M' : Mem} {i : Nat} {v : Int64} (h : VY M M') : VY M (sB M' 34 i v) := ⟨h.1, h.2.1, h.2.2.1, h.2.2.2.1, fun a z => by
  funext j
  rw [gB_sB, if_neg z, h.2.2.2.2 a z]⟩
theorem Stk.put {t : Bool} {st : List Bool} {MX MY MX' MY' : Mem} {a : Int} (h : Stk st (gA MX 9) (gB MY 34)) (eX : gA MX' 9 = upd (gA MX 9) st.length (zI a)) (eY : gB MY' 34 = gB (sB MY 34 st.length (zL a)) 34) (m : mR a) (hb : t = true → bR a) : Stk (t :: st) (gA MX' 9) (gB MY' 34) := by
  have x1 : ∀ i, gA MX' 9 i = if i = st.length then zI a else gA MX 9 i := fun i => by rw [eX]; rfl
  have y1 : ∀ i, gB MY' 34 i = if i = st.length then zL a else gB MY 34 i := fun i => by rw [eY, gB_sB, if_pos rfl]
  exact ⟨⟨a, by rw [x1, if_pos rfl], by rw [y1, if_pos rfl], m, hb⟩, h.cong (fun i hi => by rw [x1, if_neg (by omega)]) (fun i hi => by rw [y1, if_neg (by omega)])⟩
theorem mif {P : Prop} [Decidable P] {x y : Int} (hx : mR x) (hy : mR y) : mR (if P then x else y) := by
  by_cases g : P
  · rw [if_pos g]; exact hx
  · rw [if_neg g]; exact hy
theorem opZ_m {c : Int32} {a b : Int} (ha : mR a) (hb : mR b) : mR (opZ c a b) :=
  mif (clip_m _) (mif (clip_m _) (mif (clip_m _) (mif (clip_m _) (mif (mif m0 (clip_m _)) (mif (mif hb ha) (mif (mif hb ha) (mif (mif m0 m1) (mif (mif m0 m1) (mif (mif m1 m0) (mif (mif m0 hb) (mif hb m1)))))))))))
def FcR (MX MY : Mem) : Prop := ∀ s, 1 ≤ s → s ≤ 6 → ∃ a, gA MX 8 (s - 1) = zI a ∧ gA MY 35 s = zI a ∧ mR a
/-- both sides before the code at i of the reference, the step at j of the class -/
def EvR (q1 b wh e len : Nat) (st : List Bool) (MX MY : Mem) : Prop := ¬ q1 = 8 ∧ ¬ q1 = 7 ∧ gI MX (128 * q1 + 1) = nI len ∧ len ≤ 1600 ∧ gI MX 903 = nI st.length ∧ st.length ≤ 60 ∧ Stk st (gA MX 9) (gB MY 34) ∧ YH b wh e MY ∧ FcR MX MY
theorem EvR.go {q1 b wh e len : Nat} {st st' : List Bool} {MX MY MX' MY' : Mem} (h : EvR q1 b wh e len st MX MY) (fx : VX MX MX') (fy : VY MY MY') (h9 : gI MX' 903 = nI st'.length) (hs : st'.length ≤ 60) (hS : Stk st' (gA MX' 9) (gB MY' 34)) : EvR q1 b wh e len st' MX' MY' := by
  obtain ⟨h1, h1', h2, h3, h4, h5, h6, h7, h8⟩ := h
  refine ⟨h1, h1', (fx.2.2.2.2 _ (by omega)).trans h2, h3, h9, hs, hS, ?_, fun s a1 a2 => ?_⟩
  · unfold YH at h7 ⊢
    rw [fy.2.2.2.1, fy.2.2.1]
    exact h7
  · rw [fx.2.2.2.1 8 (by decide), fy.2.2.1]
    exact h8 s a1 a2
