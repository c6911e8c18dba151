/-! HOURS AHEAD ON BOTH SIDES: later, when, alike -/
theorem xfc {n0 q c m most q1 : Nat} {T : TP} {pm : Nat → Int32 × Nat} {s : Nat × List (Nat × Nat)} {M : Mem} (hn : 1700 ≤ n0) (hT : XT n0 q T M) (hS : SX q T.nc T.nd m pm s M) (hO : PsO T.nt T.nc pm) (hc : c < T.nc) (hm : m ≤ 9999) (h60 : most ≤ 60) (hq1 : q1 = 26 ∨ q1 = 27) : ∃ M', fX11_foresee n0 q1 (nI c) (nI most) M = some (nI (min most (9999 - m)), M') ∧ (∀ j, j ≤ min most (9999 - m) → gA M' q1 j = nI (hrs T.hF T.gF c m (pm c) j)) ∧ XF (fun a => a = q1) M M' := by
  have h5 := hT.2.1.2.1
  have f1 : XF (fun a => a = q1) M (hld M (nI c) (pm c).1 (nI (pm c).2) (nI m)) := hld_f
  obtain ⟨M2, e1, e2, e3⟩ := xfor (n0 := n0) (most := most) hn (hT.1.xf f1 (fun a z => by omega)) (hld_p hS.1) (by omega) (hO c hc) hm h60 hq1
  refine ⟨M2, ?_, e2, f1.tr e3⟩
  unfold fX11_foresee
  exact eq_b (xlook hS h5 hc) (eq_b e1 rfl)
theorem hrs_le {n0 b : Nat} {T : TP} {M : Mem} (hY : YT n0 b T M) {c m k : Nat} {p : Int32 × Nat} (hc : c < T.nc) (hp : pOk T.nt p) (hm : m + k ≤ 20000) : hrs T.hF T.gF c m p k ≤ 23 := by
  have h5 := hY.2.1.2.1
  have ok := tr_ok (gF := T.gF) (c := c) (m := m) hp k
  have hb := hY.2.2.1
  -- a layer that tells just that
  have := (hY.1 (sA (sA (sA M 28 0 (nI (m + k))) 29 (5 * 0 + c) (tr T.gF c m p k).1) 30 (5 * 0 + c) (nI (tr T.gF c m p k).2)) 0 c (tr T.gF c m p k).1 (tr T.gF c m p k).2 (m + k) (yTw.all (fun a _ z => by rw [gA_sA_ne (by omega), gA_sA_ne (by omega), gA_sA_ne (by omega)]) (fun _ _ _ => rfl)) ⟨hY.2.2.2.1, by decide, by rw [gA_sA_ne (by decide), gA_sA_ne (by decide), gA_sA, if_pos rfl, if_pos rfl], by rw [gA_sA_ne (by decide), gA_sA, if_pos rfl, if_pos rfl], by rw [gA_sA, if_pos rfl, if_pos rfl]⟩ ⟨by omega, ok.1, ok.2, hm⟩).1
  exact this
def trP (T : TP) (m : Nat) (pm : Nat → Int32 × Nat) (k : Nat) : Nat → Int32 × Nat := fun c => tr T.gF c m (pm c) k
theorem trP_ok {T : TP} {m : Nat} {pm : Nat → Int32 × Nat} (h : PsO T.nt T.nc pm) (k : Nat) : PsO T.nt T.nc (trP T m pm k) := fun c hc => tr_ok (h c hc) k
theorem trP_n {T : TP} {m : Nat} {pm : Nat → Int32 × Nat} (k : Nat) : nxP T (m + k) (trP T m pm k) = trP T m pm (k + 1) := rfl
theorem yahT {n0 m lo hi k : Nat} {M : Mem} (h28 : gA M 28 0 = nI m) (h1 : lo ≤ k) (h2 : k ≤ hi) (hhi : hi ≤ 100) (h3 : m + k ≤ 9999) : fX12_isAhead n0 (nI k) (nI lo) (nI hi) M = some (1, M) := by
  rcases yah (n0 := n0) (lo := lo) (hi := hi) (nI k) h28 (by omega) hhi (by omega) with ⟨_, _, _, _, _, e⟩ | ⟨z, _⟩
  · exact e
  · rcases z with z | z | ⟨j, j1, j2, j3, j4⟩
    · have := (nI_ltI (by omega) (by omega)).mp z; omega
    · have := (nI_ltI (by omega) (by omega)).mp z; omega
    · have := (nI_eq (by omega) (by omega)).mp j3; omega
theorem yahF {n0 m lo hi k : Nat} {M : Mem} (h28 : gA M 28 0 = nI m) (hm : m ≤ 9999) (hhi : hi ≤ 100) (hlo : lo ≤ hi) (hk : k ≤ 1000) (h3 : ¬ (k ≤ hi ∧ m + k ≤ 9999)) : fX12_isAhead n0 (nI k) (nI lo) (nI hi) M = some (0, M) := by
  rcases yah (n0 := n0) (lo := lo) (hi := hi) (nI k) h28 hm hhi hlo with ⟨j, j1, j2, j3, j4, _⟩ | ⟨_, e⟩
  · have := (nI_eq (by omega) (by omega)).mp j4; omega
  · exact e
theorem m28f {P : Nat → Nat → Prop} {M M' : Mem} {x : Int32} (h : gA M 28 0 = x) (f : YF P M M') (hP : ¬ P 28 0) : gA M' 28 0 = x := (f.2.2.2.1 28 0 (by decide) hP).trans h
theorem n28 : ¬ lP 1 28 0 := fun z => by unfold lP tP dP at z; omega
theorem lsc {M M' : Mem} (f : YF (lP 1) M M') : YF scP M M' := f.wk (fun _ _ z => Or.inl z)
-- later
abbrev ylL (n0 : Nat) : Nat → Int32 → Int32 → Int32 → Mem → Option (Int32 × Mem) := loopN (bX12_later_29 n0) (fun _ _ _ _ => none)
theorem ylat {n0 b c m n : Nat} {T : TP} {pm : Nat → Int32 × Nat} (hn : 1700 ≤ n0) (hc : c < T.nc) (hO : PsO T.nt T.nc pm) (hm : m + n ≤ 9999) : ∀ w k M (s : Nat × List (Nat × Nat)), k ≤ n → n < w + k → YT n0 b T M → LyD 1 T.nc (m + k) (trP T m pm k) s M → sOk T.nd s → ∃ M', ylL n0 w (nI c) (nI n) (nI k) M = some (nI (hrs T.hF T.gF c m (pm c) n), M') ∧ YF (lP 1) M M'
  | 0, k, M, s, hk, hw, _, _, _ => by omega
  | w + 1, k, M, s, hk, hw, hY, hL, hs => by
    show ∃ M', bX12_later_29 n0 (ylL n0 w) (nI c) (nI n) (nI k) M = _ ∧ _
    unfold bX12_later_29
    by_cases g : k = n
    · subst g
      obtain ⟨_, M1, e1, e2⟩ := yhr hY (v := 1) (by decide) hL.1 (trP_ok hO k) (by omega) hc
      exact ⟨M1, eq_t (Int32.le_refl _) (eq_b e1 rfl), e2.y⟩
    · obtain ⟨M1, e1, e2, e3, e4⟩ := ypassD (v := 1) hn hY (by decide) hL (trP_ok hO k) hs (by omega)
      obtain ⟨M', r1, r2⟩ := ylat hn hc hO hm w (k + 1) M1 _ (by omega) (by omega) (hY.yf e4 lP28) e2 e3
      refine ⟨M', eq_f (nI_ge (by omega) (by omega)) (eq_b e1 ?_), e4.tr r2⟩
      rw [show nI k + 1 = nI (k + 1) from nI_add k 1]
      exact r1
theorem cLater {n0 : Nat} {x y : Int32} {MX MY : Mem} (hn : 1700 ≤ n0) (h : R n0 MX MY) : Cal n0 (fX11_later n0 x y MX) (fX12_later n0 x y MY) := by
  have h0 := h
  obtain ⟨q, b, T, nr, C, m, pm, s, h⟩ := h
  obtain ⟨h1, h2, h3, h4, _⟩ := id h
  have hm := h2.1
  have hl := h2.2.2.l
  have y28 : gA MY 28 0 = nI m := h4.1.1
  unfold fX11_later fX12_later
  rcases isCo h1 x with ⟨c, hc, rfl, e1, e2⟩ | ⟨z, e1, e2⟩
  · rcases yah (n0 := n0) (lo := 0) (hi := 60) y y28 hm (by decide) (by decide) with ⟨k, _, k2, k3, rfl, e⟩ | ⟨z, e⟩
    · rcases ahead2 h k (by omega) with ⟨_, e3, _⟩ | ⟨g, _⟩
      · obtain ⟨X1, a1, a2, a3⟩ := xfc (n0 := n0) (q1 := 26) (most := k) hn h1.2.2.2.1 h3 h2.2.1 hc hm (by omega) (Or.inl rfl)
        obtain ⟨Y1, b1, b2, b3⟩ := ycopyD (n0 := n0) (v := 1) (u := 0) hn (by decide) (by decide) (by decide) h1.2.2.2.1.2.1.2.1 (by omega) h4
        obtain ⟨Y2, c1, c2⟩ := ylat (n0 := n0) (b := b) (m := m) hn hc h2.2.1 k3 n0 0 Y1 s (by omega) (by omega) (h1.2.2.2.2.1.yf b3 lP28) b2 h2.2.2
        refine Cal.scr h (eq_b e1 (eq_f (show ¬ (1 : Int32) = 0 by decide) (eq_f (nI_nn (by omega)) (eq_f (fun z => by have := (nI_ltI (a := 60) (by decide) (by omega)).mp z; omega) (eq_b e3 (eq_t rfl (eq_b a1 (eq_f (nI_in (by omega) (by decide)) ?_)))))))) (eq_b e2 (eq_f (show ¬ (1 : Int32) = 0 by decide) (eq_b e (eq_f (show ¬ (1 : Int32) = 0 by decide) (eq_b b1 c1))))) (a3.wk (fun a z => by unfold scA; omega)) (lsc (b3.tr c2))
        rw [nI_clamp (by omega), a2 k (by omega)]
      · exact absurd k3 g
    · refine Cal.same (r := -1) h0 ?_ (eq_b e2 (eq_f (show ¬ (1 : Int32) = 0 by decide) (eq_b e (eq_t rfl rfl))))
      refine eq_b e1 (eq_f (show ¬ (1 : Int32) = 0 by decide) ?_)
      rcases z with z | z | ⟨k, k1, k2, rfl, k3⟩
      · exact eq_t z rfl
      · by_cases g : y < 0
        · exact eq_t g rfl
        · exact eq_f g (eq_t z rfl)
      · rcases ahead2 h k (by omega) with ⟨g, _⟩ | ⟨_, e3, _⟩
        · exact absurd g k3
        · exact eq_f (nI_nn (by omega)) (eq_f (fun z => by have := (nI_ltI (a := 60) (by decide) (by omega)).mp z; omega) (eq_b e3 (eq_f (show ¬ (1 : Int32) = 0 by decide) rfl)))
  · exact Cal.same (r := -1) h0 (eq_b e1 (eq_t rfl rfl)) (eq_b e2 (eq_t rfl rfl))
/-- the first number from k on, of r of them, at which something is so -/
def fst1 (P : Nat → Bool) : Nat → Nat → Int32
  | _, 0 => -1
  | k, r + 1 => if P k = true then nI k else fst1 P (k + 1) r
-- alike
abbrev xkL (n0 : Nat) : Nat → Int32 → Int32 → Mem → Option (Int32 × Mem) := loopN (bX11_alike_56 n0) (fun _ _ _ => none)
theorem xalk {n0 last : Nat} {f g : Nat → Nat} {M : Mem} (h60 : last ≤ 60) (hf : ∀ j, j ≤ last → f j ≤ 23 ∧ g j ≤ 23) (h1 : ∀ j, j ≤ last → gA M 26 j = nI (f j)) (h2 : ∀ j, j ≤ last → gA M 27 j = nI (g j)) : ∀ w k, k ≤ last + 1 → last + 1 < w + k → xkL n0 w (nI last) (nI k) M = some (fst1 (fun j => decide (f j = g j)) k (last + 1 - k), M)
  | 0, k, hk, hw => by omega
  | w + 1, k, hk, hw => by
    show bX11_alike_56 n0 (xkL n0 w) (nI last) (nI k) M = _
    unfold bX11_alike_56
    by_cases z : k = last + 1
    · rw [z, Nat.sub_self]
      exact eq_t (nI_lt (by omega) (by omega)) rfl
    · have ck : (nI k).toNatClampNeg = k := nI_clamp (by omega)
      have ok : ¬ oob (nI k) 61 := nI_in (by omega) (by decide)
      obtain ⟨b1, b2⟩ := hf k (by omega)
      have st : ¬ nI last < nI k := fun y => by have := (nI_ltI (by omega) (by omega)).mp y; omega
      rw [show last + 1 - k = (last + 1 - (k + 1)) + 1 by omega]
      show _ = some (if decide (f k = g k) = true then nI k else fst1 (fun j => decide (f j = g j)) (k + 1) (last + 1 - (k + 1)), M)
      by_cases y : f k = g k
      · rw [if_pos (decide_eq_true y)]
        exact eq_f st (eq_f ok (eq_f ok (eq_t (by rw [ck, h1 k (by omega), h2 k (by omega), y]) rfl)))
      · rw [if_neg (fun u => y (of_decide_eq_true u))]
        refine eq_f st (eq_f ok (eq_f ok (eq_f (by rw [ck, h1 k (by omega), h2 k (by omega)]; exact fun u => y ((nI_eq (by omega) (by omega)).mp u)) ?_)))
        rw [show nI k + 1 = nI (k + 1) from nI_add k 1]
        exact xalk h60 hf h1 h2 w (k + 1) (by omega) (by omega)
abbrev ykL (n0 : Nat) : Nat → Int32 → Int32 → Int32 → Mem → Option (Int32 × Mem) := loopN (bX12_alike_31 n0) (fun _ _ _ _ => none)
theorem yalk {n0 b c1 c2 m : Nat} {T : TP} {pm : Nat → Int32 × Nat} (hn : 1700 ≤ n0) (hc1 : c1 < T.nc) (hc2 : c2 < T.nc) (hO : PsO T.nt T.nc pm) (hm : m ≤ 9999) : ∀ w k M (s : Nat × List (Nat × Nat)), k ≤ min 60 (9999 - m) + 1 → min 60 (9999 - m) + 1 < w + k → YT n0 b T M → LyD 1 T.nc (m + k) (trP T m pm k) s M → sOk T.nd s → gA M 28 0 = nI m → ∃ M', ykL n0 w (nI c1) (nI c2) (nI k) M = some (fst1 (fun j => decide (hrs T.hF T.gF c1 m (pm c1) j = hrs T.hF T.gF c2 m (pm c2) j)) k (min 60 (9999 - m) + 1 - k), M') ∧ YF (lP 1) M M'
  | 0, k, M, s, hk, hw, _, _, _, _ => by omega
  | w + 1, k, M, s, hk, hw, hY, hL, hs, h28 => by
    show ∃ M', bX12_alike_31 n0 (ykL n0 w) (nI c1) (nI c2) (nI k) M = _ ∧ _
    unfold bX12_alike_31
    by_cases z : k = min 60 (9999 - m) + 1
    · rw [z, Nat.sub_self]
      exact ⟨M, eq_b (yahF (lo := 0) (hi := 60) h28 hm (by decide) (by decide) (by omega) (by omega)) (eq_t rfl rfl), YF.r⟩
    · obtain ⟨l1, M1, e1, e2⟩ := yhr hY (v := 1) (by decide) hL.1 (trP_ok hO k) (by omega) hc1
      have f1 : YF (lP 1) M M1 := e2.y
      have Y1 := hY.yf f1 lP28
      have h5 := hY.2.1.2.1
      have hl := hs.l
      have L1 : LyD 1 T.nc (m + k) (trP T m pm k) s M1 := hL.fr (P := fun _ _ => False) e2.y h5 (by omega) (fun _ _ z => z.elim)
      obtain ⟨l2, M2, e3, e4⟩ := yhr Y1 (v := 1) (by decide) L1.1 (trP_ok hO k) (by omega) hc2
      have f2 : YF (lP 1) M M2 := f1.tr e4.y
      have L2 : LyD 1 T.nc (m + k) (trP T m pm k) s M2 := L1.fr (P := fun _ _ => False) e4.y h5 (by omega) (fun _ _ z => z.elim)
      have a1 := yahT (n0 := n0) (lo := 0) (hi := 60) (k := k) h28 (by omega) (by omega) (by decide) (by omega)
      rw [show min 60 (9999 - m) + 1 - k = (min 60 (9999 - m) + 1 - (k + 1)) + 1 by omega]
      show ∃ M', _ = some (if decide (hrs T.hF T.gF c1 m (pm c1) k = hrs T.hF T.gF c2 m (pm c2) k) = true then nI k else fst1 _ (k + 1) (min 60 (9999 - m) + 1 - (k + 1)), M') ∧ _
      by_cases y : hrs T.hF T.gF c1 m (pm c1) k = hrs T.hF T.gF c2 m (pm c2) k
      · rw [if_pos (decide_eq_true y)]
        exact ⟨M2, eq_b a1 (eq_f (show ¬ (1 : Int32) = 0 by decide) (eq_b e1 (eq_b e3 (eq_t (congrArg nI y) rfl)))), f2⟩
      · rw [if_neg (fun u => y (of_decide_eq_true u))]
        obtain ⟨M3, g1, g2, g3, g4⟩ := ypassD (v := 1) hn (hY.yf f2 lP28) (by decide) L2 (trP_ok hO k) hs (by omega)
        obtain ⟨M', r1, r2⟩ := yalk hn hc1 hc2 hO hm w (k + 1) M3 _ (by omega) (by omega) ((hY.yf f2 lP28).yf g4 lP28) g2 g3 (m28f (m28f h28 f2 n28) g4 n28)
        refine ⟨M', eq_b a1 (eq_f (show ¬ (1 : Int32) = 0 by decide) (eq_b e1 (eq_b e3 (eq_f (fun u => y ((nI_eq (Nat.lt_of_le_of_lt l1 (by decide)) (Nat.lt_of_le_of_lt l2 (by decide))).mp u)) (eq_b g1 ?_))))), f2.tr (g4.tr r2)⟩
        rw [show nI k + 1 = nI (k + 1) from nI_add k 1]
        exact r1
theorem cAlike {n0 : Nat} {x y : Int32} {MX MY : Mem} (hn : 1700 ≤ n0) (h : R n0 MX MY) : Cal n0 (fX11_alike n0 x y MX) (fX12_alike n0 x y MY) := by
  have h0 := h
  obtain ⟨q, b, T, nr, C, m, pm, s, h⟩ := h
  obtain ⟨h1, h2, h3, h4, _⟩ := id h
  have hm := h2.1
  have hl := h2.2.2.l
  have h5 := h1.2.2.2.1.2.1.2.1
  have y28 : gA MY 28 0 = nI m := h4.1.1
  unfold fX11_alike fX12_alike
  rcases isCo h1 x with ⟨c, hc, rfl, e1, e2⟩ | ⟨z, e1, e2⟩
  · rcases isCo h1 y with ⟨d, hd, rfl, e3, e4⟩ | ⟨z, e3, e4⟩
    · by_cases g : c = d
      · subst g
        exact Cal.same (r := -1) h0 (eq_b e1 (eq_f (show ¬ (1 : Int32) = 0 by decide) (eq_b e3 (eq_f (show ¬ (1 : Int32) = 0 by decide) (eq_t rfl rfl))))) (eq_b e2 (eq_f (show ¬ (1 : Int32) = 0 by decide) (eq_b e4 (eq_f (show ¬ (1 : Int32) = 0 by decide) (eq_t rfl rfl)))))
      · have hne : ¬ nI c = nI d := fun z => g ((nI_eq (by omega) (by omega)).mp z)
        obtain ⟨X1, a1, a2, a3⟩ := xfc (n0 := n0) (q1 := 26) (most := 60) hn h1.2.2.2.1 h3 h2.2.1 hc hm (by omega) (Or.inl rfl)
        have T1 := h1.2.2.2.1.xf a3 (fun a z => by omega)
        have S1 := h3.fr a3 (fun a z y => by unfold stA at y; omega)
        obtain ⟨X2, b1, b2, b3⟩ := xfc (n0 := n0) (q1 := 27) (most := 60) hn T1 S1 h2.2.1 hd hm (by omega) (Or.inr rfl)
        have a26 : ∀ j, j ≤ min 60 (9999 - m) → gA X2 26 j = nI (hrs T.hF T.gF c m (pm c) j) := fun j hj => by
          rw [b3.gA (a := 26) (by decide) (by decide)]
          exact a2 j hj
        have e5 := xalk (n0 := n0) (last := min 60 (9999 - m)) (f := hrs T.hF T.gF c m (pm c)) (g := hrs T.hF T.gF d m (pm d)) (M := X2) (by omega) (fun j hj => ⟨hrs_le h1.2.2.2.2.1 hc (h2.2.1 c hc) (by omega), hrs_le h1.2.2.2.2.1 hd (h2.2.1 d hd) (by omega)⟩) a26 b2 n0 0 (by omega) (by omega)
        obtain ⟨Y1, c1, c2, c3⟩ := ycopyD (n0 := n0) (v := 1) (u := 0) hn (by decide) (by decide) (by decide) h5 (by omega) h4
        obtain ⟨Y2, d1, d2⟩ := yalk (n0 := n0) (b := b) (m := m) hn hc hd h2.2.1 hm n0 0 Y1 s (by omega) (by omega) (h1.2.2.2.2.1.yf c3 lP28) c2 h2.2.2 (m28f y28 c3 n28)
        exact Cal.scr h (eq_b e1 (eq_f (show ¬ (1 : Int32) = 0 by decide) (eq_b e3 (eq_f (show ¬ (1 : Int32) = 0 by decide) (eq_f hne (eq_b a1 (eq_b b1 e5))))))) (eq_b e2 (eq_f (show ¬ (1 : Int32) = 0 by decide) (eq_b e4 (eq_f (show ¬ (1 : Int32) = 0 by decide) (eq_f hne (eq_b c1 d1)))))) ((a3.wk (fun a z => by unfold scA; omega)).tr (b3.wk (fun a z => by unfold scA; omega))) (lsc (c3.tr d2))
    · exact Cal.same (r := -1) h0 (eq_b e1 (eq_f (show ¬ (1 : Int32) = 0 by decide) (eq_b e3 (eq_t rfl rfl)))) (eq_b e2 (eq_f (show ¬ (1 : Int32) = 0 by decide) (eq_b e4 (eq_t rfl rfl))))
  · exact Cal.same (r := -1) h0 (eq_b e1 (eq_t rfl rfl)) (eq_b e2 (eq_t rfl rfl))
-- when
theorem fnS_bit {du : Nat → Bool} {m nd : Nat} {s : Nat × List (Nat × Nat)} (hn : nd ≤ 6) (h : sOk nd s) (e : Nat) (he : e < 6) : ∀ d, d ≤ nd → (fnS du m s d).1 / 2 ^ e % 2 = if e < d ∧ s.1 / 2 ^ e % 2 = 0 ∧ du e = true then 1 else s.1 / 2 ^ e % 2
  | 0, _ => by rw [if_neg (fun z => by omega)]; rfl
  | d + 1, hd => by
    have ih := fnS_bit hn h e he d (by omega) (du := du) (m := m)
    have sok := fnS_ok (du := du) (m := m) hn h d (by omega)
    have s64 : (fnS du m s d).1 < 64 := Nat.lt_of_lt_of_le sok.1 (p64 hn)
    have st : fnS du m s (d + 1) = if (fnS du m s d).1 / 2 ^ d % 2 = 0 ∧ du d = true then ((fnS du m s d).1 + 2 ^ d, (fnS du m s d).2 ++ [(m, d)]) else fnS du m s d := rfl
    have idd := fnS_bit hn h d (by omega) d (by omega) (du := du) (m := m)
    rw [if_neg (fun z => by omega)] at idd
    rw [st]
    by_cases g : (fnS du m s d).1 / 2 ^ d % 2 = 0 ∧ du d = true
    · rw [if_pos g]
      show ((fnS du m s d).1 + 2 ^ d) / 2 ^ e % 2 = _
      rw [bt_at _ s64 d (by omega) g.1 e he]
      by_cases z : e = d
      · rw [if_pos z, z, if_pos ⟨by omega, by rw [← idd]; exact g.1, g.2⟩]
      · rw [if_neg z, ih]
        by_cases y : e < d ∧ s.1 / 2 ^ e % 2 = 0 ∧ du e = true
        · rw [if_pos y, if_pos ⟨by omega, y.2⟩]
        · rw [if_neg y, if_neg (fun u => y ⟨by omega, u.2⟩)]
    · rw [if_neg g, ih]
      by_cases y : e < d ∧ s.1 / 2 ^ e % 2 = 0 ∧ du e = true
      · rw [if_pos y, if_pos ⟨by omega, y.2⟩]
      · rw [if_neg y]
        by_cases z : e = d
        · subst z
          rw [if_neg (fun u => g ⟨by rw [idd]; exact u.2.1, u.2.2⟩)]
        · rw [if_neg (fun u => y ⟨by omega, u.2⟩)]
abbrev xwL (n0 : Nat) : Nat → Int32 → Int32 → Int32 → Mem → Option (Int32 × Mem) := loopN (bX11_when_50 n0) (fun _ _ _ _ => none)
theorem xwhn {n0 q d last : Nat} {T : TP} {f : Nat → Nat} {M : Mem} (hT : XT n0 q T M) (hq : gR M 1 = q) (hd : d < T.nd) (h60 : last ≤ 60) (hf : ∀ j, j ≤ last → f j ≤ 23) (h1 : ∀ j, j ≤ last → gA M 26 j = nI (f j)) : ∀ w k, k ≤ last + 1 → last + 1 < w + k → xwL n0 w (nI d) (nI last) (nI k) M = some (fst1 (fun j => decide (f j = T.dh d)) k (last + 1 - k), M)
  | 0, k, hk, hw => by omega
  | w + 1, k, hk, hw => by
    show bX11_when_50 n0 (xwL n0 w) (nI d) (nI last) (nI k) M = _
    have h6 := hT.2.1.2.2.1
    have d2 := (hT.2.1.2.2.2 d hd).2
    unfold bX11_when_50
    by_cases z : k = last + 1
    · rw [z, Nat.sub_self]
      exact eq_t (nI_lt (by omega) (by omega)) rfl
    · have ck : (nI k).toNatClampNeg = k := nI_clamp (by omega)
      have cd : (nI d).toNatClampNeg = d := nI_clamp (by omega)
      have ok : ¬ oob (nI k) 61 := nI_in (by omega) (by decide)
      have od : ¬ oob (nI d) 6 := nI_in (by omega) (by decide)
      have b1 := hf k (by omega)
      have q11 : gA M (gR M 1 + 11) (nI d).toNatClampNeg = nI (T.dh d) := by rw [hq, cd]; exact (hT.2.2.2.2 d hd).2
      have st : ¬ nI last < nI k := fun y => by have := (nI_ltI (by omega) (by omega)).mp y; omega
      rw [show last + 1 - k = (last + 1 - (k + 1)) + 1 by omega]
      show _ = some (if decide (f k = T.dh d) = true then nI k else fst1 (fun j => decide (f j = T.dh d)) (k + 1) (last + 1 - (k + 1)), M)
      by_cases y : f k = T.dh d
      · rw [if_pos (decide_eq_true y)]
        exact eq_f st (eq_f ok (eq_f od (eq_t (by rw [ck, h1 k (by omega), q11, y]) rfl)))
      · rw [if_neg (fun u => y (of_decide_eq_true u))]
        refine eq_f st (eq_f ok (eq_f od (eq_f (by rw [ck, h1 k (by omega), q11]; exact fun u => y ((nI_eq (by omega) (by omega)).mp u)) ?_)))
        rw [show nI k + 1 = nI (k + 1) from nI_add k 1]
        exact xwhn hT hq hd h60 hf h1 w (k + 1) (by omega) (by omega)
abbrev ywL (n0 : Nat) : Nat → Int32 → Int32 → Mem → Option (Int32 × Mem) := loopN (bX12_when_18 n0) (fun _ _ _ => none)
theorem ywhn {n0 b d m : Nat} {T : TP} {pm : Nat → Int32 × Nat} (hn : 1700 ≤ n0) (hd : d < T.nd) (hO : PsO T.nt T.nc pm) (hm : m ≤ 9999) : ∀ w k M (s : Nat × List (Nat × Nat)), k ≤ min 60 (9999 - m) + 1 → min 60 (9999 - m) + 1 < w + k → YT n0 b T M → LyD 1 T.nc (m + k) (trP T m pm k) s M → sOk T.nd s → gA M 28 0 = nI m → ∃ M', ywL n0 w (nI d) (nI k) M = some (if k ≤ min 60 (9999 - m) then (if s.1 / 2 ^ d % 2 = 1 then nI k else fst1 (fun j => decide (hrs T.hF T.gF (T.dc d) m (pm (T.dc d)) j = T.dh d)) (k + 1) (min 60 (9999 - m) - k)) else -1, M') ∧ YF (lP 1) M M'
  | 0, k, M, s, hk, hw, _, _, _, _ => by omega
  | w + 1, k, M, s, hk, hw, hY, hL, hs, h28 => by
    show ∃ M', bX12_when_18 n0 (ywL n0 w) (nI d) (nI k) M = _ ∧ _
    have h6 := hY.2.1.2.2.1
    have s64 : s.1 < 64 := Nat.lt_of_lt_of_le hs.1 (p64 h6)
    unfold bX12_when_18
    by_cases z : k = min 60 (9999 - m) + 1
    · rw [if_neg (by omega)]
      exact ⟨M, eq_b (yahF (lo := 0) (hi := 60) h28 hm (by decide) (by decide) (by omega) (by omega)) (eq_t rfl rfl), YF.r⟩
    · rw [if_pos (by omega)]
      have a1 := yahT (n0 := n0) (lo := 0) (hi := 60) (k := k) h28 (by omega) (by omega) (by decide) (by omega)
      have a2 : fX12_has2 n0 (gA M 31 (Int32.toNatClampNeg 1)) (nI d) M = some (bI (s.1 / 2 ^ d % 2 = 1), M) := by
        rw [show gA M 31 (Int32.toNatClampNeg 1) = nI s.1 from hL.2.1]
        exact yhas2 s64 (by omega)
      by_cases y : s.1 / 2 ^ d % 2 = 1
      · rw [if_pos y]
        exact ⟨M, eq_b a1 (eq_f (show ¬ (1 : Int32) = 0 by decide) (eq_f (by decide) (eq_b a2 (eq_f (show ¬ bI (s.1 / 2 ^ d % 2 = 1) = 0 by rw [bI_t y]; decide) rfl)))), YF.r⟩
      · rw [if_neg y]
        obtain ⟨M1, g1, g2, g3, g4⟩ := ypassD (v := 1) hn hY (by decide) hL (trP_ok hO k) hs (by omega)
        obtain ⟨M', r1, r2⟩ := ywhn hn hd hO hm w (k + 1) M1 _ (by omega) (by omega) (hY.yf g4 lP28) g2 g3 (m28f h28 g4 n28)
        have bit : (nxS T (m + k) (trP T m pm k) s).1 / 2 ^ d % 2 = 1 ↔ hrs T.hF T.gF (T.dc d) m (pm (T.dc d)) (k + 1) = T.dh d := by
          have e := fnS_bit (du := due T (nxP T (m + k) (trP T m pm k)) (m + k + 1)) (m := m + k + 1) h6 hs d (by omega) T.nd (Nat.le_refl _)
          have e2 : (nxS T (m + k) (trP T m pm k) s).1 / 2 ^ d % 2 = if d < T.nd ∧ s.1 / 2 ^ d % 2 = 0 ∧ due T (nxP T (m + k) (trP T m pm k)) (m + k + 1) d = true then 1 else s.1 / 2 ^ d % 2 := e
          rw [e2]
          by_cases u : hrs T.hF T.gF (T.dc d) m (pm (T.dc d)) (k + 1) = T.dh d
          · rw [if_pos ⟨hd, by omega, decide_eq_true u⟩]
            exact ⟨fun _ => u, fun _ => rfl⟩
          · rw [if_neg (fun v => u (of_decide_eq_true v.2.2))]
            exact ⟨fun v => absurd v y, fun v => absurd v u⟩
        refine ⟨M', eq_b a1 (eq_f (show ¬ (1 : Int32) = 0 by decide) (eq_f (by decide) (eq_b a2 (eq_t (show bI (s.1 / 2 ^ d % 2 = 1) = 0 from bI_f y) (eq_b g1 ?_))))), g4.tr r2⟩
        rw [show nI k + 1 = nI (k + 1) from nI_add k 1]
        refine r1.trans ?_
        congr 2
        by_cases v : k + 1 ≤ min 60 (9999 - m)
        · rw [if_pos v, show min 60 (9999 - m) - k = (min 60 (9999 - m) - (k + 1)) + 1 by omega]
          show _ = if decide (hrs T.hF T.gF (T.dc d) m (pm (T.dc d)) (k + 1) = T.dh d) = true then nI (k + 1) else _
          by_cases u : hrs T.hF T.gF (T.dc d) m (pm (T.dc d)) (k + 1) = T.dh d
          · rw [if_pos (bit.mpr u), if_pos (decide_eq_true u)]
          · rw [if_neg (fun x => u (bit.mp x)), if_neg (fun x => u (of_decide_eq_true x))]
        · rw [if_neg v, show min 60 (9999 - m) - k = 0 by omega]
          rfl
theorem cWhen {n0 : Nat} {x : Int32} {MX MY : Mem} (hn : 1700 ≤ n0) (h : R n0 MX MY) : Cal n0 (fX11_when n0 x MX) (fX12_when n0 x MY) := by
  have h0 := h
  obtain ⟨q, b, T, nr, C, m, pm, s, h⟩ := h
  obtain ⟨h1, h2, h3, h4, _⟩ := id h
  have hm := h2.1
  have hl := h2.2.2.l
  obtain ⟨o1, o2, o3, o4⟩ := h1.2.2.2.1.2.1
  have y28 : gA MY 28 0 = nI m := h4.1.1
  unfold fX11_when fX12_when
  rcases isDo h1 x with ⟨d, hd, rfl, e1, e2⟩ | ⟨z, e1, e2⟩
  · have cd : (nI d).toNatClampNeg = d := nI_clamp (by omega)
    have od : ¬ oob (nI d) 6 := nI_in (by omega) (by decide)
    have dn := h3.2.2.2.2.1 d hd
    have dc := (o4 d hd).1
    obtain ⟨Y1, c1, c2, c3⟩ := ycopyD (n0 := n0) (v := 1) (u := 0) hn (by decide) (by decide) (by decide) o2 (by omega) h4
    obtain ⟨Y2, d1, d2⟩ := ywhn (n0 := n0) (b := b) (m := m) hn hd h2.2.1 hm n0 0 Y1 s (by omega) (by omega) (h1.2.2.2.2.1.yf c3 lP28) c2 h2.2.2 (m28f y28 c3 n28)
    rw [if_pos (Nat.zero_le _)] at d1
    by_cases g : s.1 / 2 ^ d % 2 = 1
    · rw [if_pos g] at d1
      exact Cal.scr (r := 0) h (eq_b e1 (eq_f (show ¬ (1 : Int32) = 0 by decide) (eq_f od (eq_t (by rw [cd, dn, g]; rfl) rfl)))) (eq_b e2 (eq_f (show ¬ (1 : Int32) = 0 by decide) (eq_b c1 d1))) XF.r (lsc (c3.tr d2))
    · rw [if_neg g] at d1
      obtain ⟨X1, a1, a2, a3⟩ := xfc (n0 := n0) (q1 := 26) (most := 60) hn h1.2.2.2.1 h3 h2.2.1 dc hm (by omega) (Or.inl rfl)
      have T1 := h1.2.2.2.1.xf a3 (fun a z => by omega)
      have e5 := xwhn (n0 := n0) (last := min 60 (9999 - m)) (f := hrs T.hF T.gF (T.dc d) m (pm (T.dc d))) (M := X1) T1 (by rw [a3.1]; exact h1.2.1) hd (by omega) (fun j hj => hrs_le h1.2.2.2.2.1 dc (h2.2.1 _ dc) (by omega)) a2 n0 1 (by omega) (by omega)
      rw [Nat.add_sub_cancel] at e5
      refine Cal.scr h (eq_b e1 (eq_f (show ¬ (1 : Int32) = 0 by decide) (eq_f od (eq_f (by rw [cd, dn, show s.1 / 2 ^ d % 2 = 0 by omega]; decide) (eq_f od (eq_b (z := (nI (min 60 (9999 - m)), X1)) ?_ e5)))))) (eq_b e2 (eq_f (show ¬ (1 : Int32) = 0 by decide) (eq_b c1 d1))) (a3.wk (fun a z => by unfold scA; omega)) (lsc (c3.tr d2))
      show fX11_foresee n0 26 (gA MX (gR MX 1 + 10) (nI d).toNatClampNeg) 60 MX = _
      rw [h1.2.1, cd, (h1.2.2.2.1.2.2.2.2 d hd).1]
      exact a1
  · exact Cal.same (r := -1) h0 (eq_b e1 (eq_t rfl rfl)) (eq_b e2 (eq_t rfl rfl))
