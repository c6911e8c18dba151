/-! ONE CODE OF A FORMULA ON BOTH SIDES -/
def Ev1 (n0 q1 b wh e len : Nat) (st st' : List Bool) (i j n : Nat) (MX MY : Mem) : Prop := ∃ MX' MY', (∀ w, vL n0 q1 (w + n) (nI j) MX = vL n0 q1 w (nI (j + n)) MX') ∧ (∀ w, rL n0 (w + 1) (nI wh) (nI st.length) (nI (1600 * b + i)) MY = rL n0 w (nI wh) (nI st'.length) (nI (1600 * b + (i + 1))) MY') ∧ EvR q1 b wh e len st' MX' MY' ∧ VX MX MX' ∧ VY MY MY'
theorem evpush {n0 q1 b wh e len i j : Nat} {t : Bool} {st : List Bool} {MX MY : Mem} {a : Int} (h : EvR q1 b wh e len st MX MY) (hl : st.length < 60) (m : mR a) (hb : t = true → bR a) (hx : ∀ w, vL n0 q1 (w + 1) (nI j) MX = vL n0 q1 w (nI (j + 1)) (sI (sA MX 9 st.length (zI a)) 903 (nI (st.length + 1)))) (hy : ∀ w, rL n0 (w + 1) (nI wh) (nI st.length) (nI (1600 * b + i)) MY = rL n0 w (nI wh) (nI (st.length + 1)) (nI (1600 * b + (i + 1))) (sB MY 34 st.length (zL a))) : Ev1 n0 q1 b wh e len st (t :: st) i j 1 MX MY :=
  ⟨_, _, hx, hy, h.go VX.r.a.i VY.r.b gI_at (by show st.length + 1 ≤ 60; omega) (h.2.2.2.2.2.2.1.put gA_sA_at rfl m hb), VX.r.a.i, VY.r.b⟩
theorem evjoin {n0 q1 b wh e len i j : Nat} {t t1 t2 : Bool} {r : List Bool} {MX MY : Mem} {v : Int} (h : EvR q1 b wh e len (t1 :: t2 :: r) MX MY) (m : mR v) (hb : t = true → bR v) (hx : ∀ w, vL n0 q1 (w + 1) (nI j) MX = vL n0 q1 w (nI (j + 1)) (sA (sI MX 903 (nI (r.length + 1))) 9 r.length (zI v))) (hy : ∀ w, rL n0 (w + 1) (nI wh) (nI (r.length + 2)) (nI (1600 * b + i)) MY = rL n0 w (nI wh) (nI (r.length + 1)) (nI (1600 * b + (i + 1))) (sB MY 34 r.length (zL v))) : Ev1 n0 q1 b wh e len (t1 :: t2 :: r) (t :: r) i j 1 MX MY := by
  have l : (t1 :: t2 :: r).length = r.length + 2 := rfl
  have h6 := h.2.2.2.2.2.1
  exact ⟨_, _, hx, hy, h.go VX.r.i.a VY.r.b (by rw [gI_sA]; exact gI_at) (by show r.length + 1 ≤ 60; omega) (h.2.2.2.2.2.2.1.2.2.put gA_sA_at rfl m hb), VX.r.i.a, VY.r.b⟩
theorem evop {n0 q1 b wh e len i j : Nat} {t t1 t2 : Bool} {r : List Bool} {MX MY : Mem} {c x : Int32} (h : EvR q1 b wh e len (t1 :: t2 :: r) MX MY) (hj : j < len) (hi : i < e) (hX : gA MX (q1 + 1) j = x) (hY : gA MY 16 (1600 * b + i) = c) (h6 : ¬ (-6 : Int32) ≤ x) (h14 : ¬ x = -14) (h30 : (30 : Int32) < c) (h43 : ¬ c = 43) (h44 : ¬ c = 44)
    (xv : ∀ (u v : Int) (M : Mem), mR u → mR v → (t1 = true → bR v) → (t2 = true → bR u) → joinT n0 x (nI r.length) (zI u) (zI v) M = some (sA M 9 r.length (zI (opZ c u v))))
    (yv : ∀ (u v : Int) (M : Mem), mR u → mR v → (t1 = true → bR v) → (t2 = true → bR u) → fX12_two n0 c (zL u) (zL v) M = some (zL (opZ c u v), M))
    (hb : ∀ u v, (t1 = true → bR v) → (t2 = true → bR u) → t = true → bR (opZ c u v)) : Ev1 n0 q1 b wh e len (t1 :: t2 :: r) (t :: r) i j 1 MX MY := by
  have l : (t1 :: t2 :: r).length = r.length + 2 := rfl
  obtain ⟨q8, q7, n1, n2, h9, h60, ⟨⟨v, v1, v2, v3, v4⟩, ⟨u, u1, u2, u3, u4⟩, hS⟩, hH, hF⟩ := id h
  have l2 : (t2 :: r).length = r.length + 1 := rfl
  rw [l2] at v1 v2
  have hl : ¬ gI MX (128 * q1 + 1) ≤ nI j := by rw [n1]; exact nI_ge hj (by omega)
  refine evjoin h (opZ_m u3 v3) (hb u v v4 u4) (fun w => ?_) (fun w => ?_)
  · refine xop (by omega) hl hX h6 ?_
    rw [xjoin (k := r.length) (by omega) h9 h14, u1, v1]
    exact xv u v _ u3 v3 v4 u4
  · refine ytw hH hi (by omega) hY h30 h43 h44 ?_
    rw [u2, v2]
    exact yv u v _ u3 v3 v4 u4
