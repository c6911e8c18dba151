/-! ANY CODE, AND A WHOLE FORMULA, ON BOTH SIDES -/
theorem ev1 {n0 q1 b wh e len i j : Nat} {st st' : List Bool} {MX MY : Mem} {c1 c2 : Int32} (h : EvR q1 b wh e len st MX MY) (ht : ty1 (c1, c2) st = some st') (hj : j + (ex1 (c1, c2)).length ≤ len) (hi : i < e) (hX : ∀ t x, (ex1 (c1, c2))[t]? = some x → gA MX (q1 + 1) (j + t) = x) (hY : gA MY 16 (1600 * b + i) = c1) (hY2 : gA MY 17 (1600 * b + i) = c2) : Ev1 n0 q1 b wh e len st st' i j (ex1 (c1, c2)).length MX MY := by
  unfold ty1 at ht
  dsimp only at ht
  by_cases g0 : c1 = 0
  · subst g0
    rw [if_pos rfl] at ht
    have hl : (ex1 (0, c2)).length = 1 := rfl
    by_cases g : st.length < 60 ∧ 0 ≤ c2 ∧ c2 ≤ 9999
    · rw [if_pos g] at ht
      cases ht
      exact evlit h g.1 g.2.1 g.2.2 (by omega) hi (hX 0 c2 rfl) hY hY2
    · rw [if_neg g] at ht
      cases ht
  rw [if_neg g0] at ht
  by_cases g1 : c1 = 1 ∨ c1 = 2 ∨ c1 = 3 ∨ c1 = 4 ∨ c1 = 5 ∨ c1 = 6
  · rw [if_pos g1] at ht
    by_cases g : st.length < 60
    · rw [if_pos g] at ht
      cases ht
      rcases g1 with z | z | z | z | z | z <;> subst z
      · have hl : (ex1 (1, c2)).length = 1 := rfl
        exact evfact (s := 1) h g (by omega) (by omega) hi (hX 0 (-1) rfl) hY
      · have hl : (ex1 (2, c2)).length = 1 := rfl
        exact evfact (s := 2) h g (by omega) (by omega) hi (hX 0 (-2) rfl) hY
      · have hl : (ex1 (3, c2)).length = 1 := rfl
        exact evfact (s := 3) h g (by omega) (by omega) hi (hX 0 (-3) rfl) hY
      · have hl : (ex1 (4, c2)).length = 1 := rfl
        exact evfact (s := 4) h g (by omega) (by omega) hi (hX 0 (-4) rfl) hY
      · have hl : (ex1 (5, c2)).length = 1 := rfl
        exact evfact (s := 5) h g (by omega) (by omega) hi (hX 0 (-5) rfl) hY
      · have hl : (ex1 (6, c2)).length = 1 := rfl
        exact evfact (s := 6) h g (by omega) (by omega) hi (hX 0 (-6) rfl) hY
    · rw [if_neg g] at ht
      cases ht
  rw [if_neg g1] at ht
  by_cases g2 : c1 = 30
  · subst g2
    rw [if_pos rfl] at ht
    have hl : (ex1 (30, c2)).length = 1 := rfl
    by_cases g : st.length < 60
    · rw [if_pos g] at ht
      cases ht
      exact evone h g (by omega) hi (hX 0 1 rfl) hY
    · rw [if_neg g] at ht
      cases ht
  rw [if_neg g2] at ht
  by_cases g3 : c1 = 31 ∨ c1 = 32 ∨ c1 = 33 ∨ c1 = 34 ∨ c1 = 35 ∨ c1 = 36 ∨ c1 = 37
  · rw [if_pos g3] at ht
    rcases st with _ | ⟨_ | _, _ | ⟨_ | _, r⟩⟩ <;> cases ht
    rcases g3 with z | z | z | z | z | z | z <;> subst z
    · have hl : (ex1 (31, c2)).length = 1 := rfl
      exact ev31 h (by omega) hi (hX 0 (-7) rfl) hY
    · have hl : (ex1 (32, c2)).length = 1 := rfl
      exact ev32 h (by omega) hi (hX 0 (-8) rfl) hY
    · have hl : (ex1 (33, c2)).length = 1 := rfl
      exact ev33 h (by omega) hi (hX 0 (-9) rfl) hY
    · have hl : (ex1 (34, c2)).length = 1 := rfl
      exact ev34 h (by omega) hi (hX 0 (-10) rfl) hY
    · have hl : (ex1 (35, c2)).length = 1 := rfl
      exact ev35 h (by omega) hi (hX 0 (-11) rfl) hY
    · have hl : (ex1 (36, c2)).length = 1 := rfl
      exact ev36 h (by omega) hi (hX 0 (-12) rfl) hY
    · have hl : (ex1 (37, c2)).length = 1 := rfl
      exact ev37 h (by omega) hi (hX 0 (-13) rfl) hY
  rw [if_neg g3] at ht
  by_cases g4 : c1 = 38 ∨ c1 = 39 ∨ c1 = 40
  · rw [if_pos g4] at ht
    rcases st with _ | ⟨_ | _, _ | ⟨_ | _, r⟩⟩ <;> cases ht
    rcases g4 with z | z | z <;> subst z
    · have hl : (ex1 (38, c2)).length = 1 := rfl
      exact ev38 h (by omega) hi (hX 0 (-15) rfl) hY
    · have hl : (ex1 (39, c2)).length = 1 := rfl
      exact ev39 h (by omega) hi (hX 0 (-16) rfl) hY
    · have hl : (ex1 (40, c2)).length = 1 := rfl
      exact ev40 h (by omega) hi (hX 0 (-17) rfl) hY
  rw [if_neg g4] at ht
  by_cases g5 : c1 = 41 ∨ c1 = 42
  · rw [if_pos g5] at ht
    rcases st with _ | ⟨_ | _, _ | ⟨_ | _, r⟩⟩ <;> cases ht
    rcases g5 with z | z <;> subst z
    · have hl : (ex1 (41, c2)).length = 1 := rfl
      exact ev41 h (by omega) hi (hX 0 (-18) rfl) hY
    · have hl : (ex1 (42, c2)).length = 1 := rfl
      exact ev42 h (by omega) hi (hX 0 (-19) rfl) hY
  rw [if_neg g5] at ht
  by_cases g6 : c1 = 43
  · subst g6
    rw [if_pos rfl] at ht
    have hl : (ex1 (43, c2)).length = 2 := rfl
    rcases st with _ | ⟨_ | _, r⟩
    · cases ht
    · cases ht
    · dsimp only at ht
      by_cases g : r.length < 59
      · rw [if_pos g] at ht
        cases ht
        exact evnot h g (by omega) hi (hX 0 0 rfl) (hX 1 (-17) rfl) hY
      · rw [if_neg g] at ht
        cases ht
  rw [if_neg g6] at ht
  by_cases g7 : c1 = 44
  · subst g7
    rw [if_pos rfl] at ht
    have hl : (ex1 (44, c2)).length = 1 := rfl
    rcases st with _ | ⟨_ | _, _ | ⟨_ | _, _ | ⟨_ | _, r⟩⟩⟩ <;> cases ht
    exact evif h (by omega) hi (hX 0 (-14) rfl) hY
  rw [if_neg g7] at ht
  cases ht
