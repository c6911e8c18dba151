/-! PLANS COME TO AN END, BY THE CLASS -/
abbrev xpTL (n0 : Nat) : Nat → Int32 → Int32 → Int32 → Mem → Option (Int32 × Mem) := loopN (bX11_tellsWithin_3 n0) (fun _ _ _ _ => none)
theorem xtells {n0 last : Nat} {x1 : Int32} {M : Mem} (hl : last ≤ 60) : ∀ w k, k ≤ last + 1 → last + 1 < w + k → ∃ r, xpTL n0 w x1 (nI last) (nI k) M = some (r, M)
  | 0, k, hk, hw => by omega
  | w + 1, k, hk, hw => by
    show ∃ r, bX11_tellsWithin_3 n0 (xpTL n0 w) x1 (nI last) (nI k) M = _
    unfold bX11_tellsWithin_3
    by_cases g : k = last + 1
    · exact ⟨_, eq_t (nI_lt (by omega) (by omega)) rfl⟩
    · by_cases z : gA M 26 (Int32.toNatClampNeg (nI k)) = x1
      · exact ⟨_, eq_f (fun z => by have := (nI_ltI (a := last) (b := k) (by omega) (by omega)).mp z; omega) (eq_f (nI_in (by omega) (by decide)) (eq_t z rfl))⟩
      · obtain ⟨r, e⟩ := xtells (n0 := n0) (x1 := x1) (M := M) hl w (k + 1) (by omega) (by omega)
        exact ⟨r, eq_f (fun z => by have := (nI_ltI (a := last) (b := k) (by omega) (by omega)).mp z; omega) (eq_f (nI_in (by omega) (by decide)) (eq_f z (by rw [show nI k + 1 = nI (k + 1) from nI_add k 1]; exact e)))⟩
abbrev xpDL (n0 : Nat) : Nat → Int32 → Int32 → Int32 → Int32 → Int32 → Mem → Option (Int32 × Mem) := loopN (bX11_doesAll_3 n0) (fun _ _ _ _ _ _ => none)
theorem xdoes {n0 q last lo : Nat} {x1 x2 : Int32} {T : TP} {M : Mem} (hn : 1700 ≤ n0) (hT : XT n0 q T M) (h1 : gR M 1 = q) (hl : last ≤ 60) (hlo : lo ≤ last + 1) : ∀ w k, k ≤ T.nd → T.nd < w + k → ∃ r, xpDL n0 w x1 x2 (nI lo) (nI last) (nI k) M = some (r, M) ∧ (r = 0 ∨ r = 1)
  | 0, k, hk, hw => by omega
  | w + 1, k, hk, hw => by
    show ∃ r, bX11_doesAll_3 n0 (xpDL n0 w) x1 x2 (nI lo) (nI last) (nI k) M = _ ∧ _
    have o3 := hT.2.1.2.2.1
    have en : gI M (128 * gR M 1 + 12) = nI T.nd := by rw [h1]; exact hT.2.2.2.1
    unfold bX11_doesAll_3
    by_cases g : k = T.nd
    · exact ⟨_, eq_t (by rw [en, g]; exact Int32.le_refl _) rfl, Or.inr rfl⟩
    · obtain ⟨r, e, er⟩ := xdoes (n0 := n0) (x1 := x1) (x2 := x2) hn hT h1 hl hlo w (k + 1) (by omega) (by omega)
      have o : ¬ oob (nI k) 6 := nI_in (by omega) (by decide)
      have nx : fX11_doesAll_86 n0 (xpDL n0 w) x1 x2 (nI lo) (nI last) (nI k) M = some (r, M) := by
        unfold fX11_doesAll_86
        rw [show nI k + 1 = nI (k + 1) from nI_add k 1]
        exact e
      have n43 : fX11_doesAll_43 n0 (xpDL n0 w) x1 x2 (nI lo) (nI last) (nI k) M = some (r, M) := by
        unfold fX11_doesAll_43 fX11_doesAll_44
        exact eq_t rfl nx
      have n44 : ∃ r, fX11_doesAll_44 n0 (xpDL n0 w) x1 x2 (nI lo) (nI last) (nI k) 1 M = some (r, M) ∧ (r = 0 ∨ r = 1) := by
        unfold fX11_doesAll_44
        by_cases z : gA M 13 (Int32.toNatClampNeg (nI k)) = 0
        · obtain ⟨r', e'⟩ := xtells (n0 := n0) (x1 := gA M (gR M 1 + 11) (Int32.toNatClampNeg (nI k))) (M := M) hl n0 lo hlo (by omega)
          have e2 : fX11_tellsWithin n0 (gA M (gR M 1 + 11) (Int32.toNatClampNeg (nI k))) (nI lo) (nI last) M = some (r', M) := e'
          by_cases z2 : r' = 0
          · exact ⟨0, eq_f (show ¬ (1 : Int32) = 0 by decide) (eq_f o (eq_t z (eq_f o (eq_b e2 (eq_t z2 rfl))))), Or.inl rfl⟩
          · exact ⟨r, eq_f (show ¬ (1 : Int32) = 0 by decide) (eq_f o (eq_t z (eq_f o (eq_b e2 (eq_f z2 nx))))), er⟩
        · exact ⟨r, eq_f (show ¬ (1 : Int32) = 0 by decide) (eq_f o (eq_f z nx)), er⟩
      have ng : ¬ gI M (128 * gR M 1 + 12) ≤ nI k := by rw [en]; exact nI_ge (by omega) (by omega)
      by_cases z : ((x2 >>> (nI k &&& 31)) &&& (1 : Int32)) = 1
      · by_cases z2 : gA M (gR M 1 + 10) (Int32.toNatClampNeg (nI k)) = x1
        · obtain ⟨r', e', er'⟩ := n44
          exact ⟨r', eq_f ng (eq_t z (eq_f o (eq_t z2 e'))), er'⟩
        · exact ⟨r, eq_f ng (eq_t z (eq_f o (eq_f z2 n43))), er⟩
      · exact ⟨r, eq_f ng (eq_f z n43), er⟩
/-- what plans stand on, and what they leave -/
def PlI (n0 q : Nat) (T : TP) (m : Nat) (pm : Nat → Int32 × Nat) (s : Nat × List (Nat × Nat)) (M0 M : Mem) : Prop := XF scA M0 M ∧ XT n0 q T M ∧ SX q T.nc T.nd m pm s M ∧ gR M 1 = q
theorem PlI.fr {n0 q m : Nat} {T : TP} {pm : Nat → Int32 × Nat} {s : Nat × List (Nat × Nat)} {M0 M M' : Mem} (h : PlI n0 q T m pm s M0 M) (f : XF scA M M') : PlI n0 q T m pm s M0 M' := ⟨h.1.tr f, h.2.1.xf f scA31, h.2.2.1.fr f (fun a z y => by unfold scA at z; unfold stA at y; omega), by rw [f.1]; exact h.2.2.2⟩
theorem xpalm {n0 q m c most lo h : Nat} {t x2 : Int32} {T : TP} {pm : Nat → Int32 × Nat} {s : Nat × List (Nat × Nat)} {M0 M : Mem} (hn : 1700 ≤ n0) (hm : m ≤ 9999) (hI : PlI n0 q T m pm s M0 M) (hc : c < T.nc) (hp : pOk T.nt (t, h)) (hmo : most ≤ 20) (hlo : lo ≤ 1) : ∃ r M1 M2, fX1_foresee n0 26 (nI most) (hld M (nI c) t (nI h) (nI m)) = some (r, M1) ∧ (∃ v, fX11_doesAll n0 (nI c) x2 (nI lo) r M1 = some (v, M2) ∧ (v = 0 ∨ v = 1)) ∧ PlI n0 q T m pm s M0 M2 := by
  have o2 := hI.2.1.2.1.2.1
  have o3 := hI.2.1.2.1.2.2.1
  have f1 : XF scA M (hld M (nI c) t (nI h) (nI m)) := hld_f
  obtain ⟨M2, e1, e2, e3⟩ := xfor (n0 := n0) (q1 := 26) (most := most) hn (hI.2.1.1.xf f1 scA31) (hld_p hI.2.2.1.1) (by omega) hp hm (by omega) (Or.inl rfl)
  have I2 := (hI.fr f1).fr (e3.wk (fun a z => by unfold scA; omega))
  obtain ⟨v, d1, d2⟩ := xdoes (n0 := n0) (lo := lo) (last := min most (9999 - m)) (x1 := nI c) (x2 := x2) hn I2.2.1 I2.2.2.2 (by omega) (by omega) n0 0 (by omega) (by omega)
  exact ⟨_, M2, M2, e1, ⟨v, d1, d2⟩, I2⟩
theorem xwith {n0 q m c most lo : Nat} {x2 : Int32} {T : TP} {pm : Nat → Int32 × Nat} {s : Nat × List (Nat × Nat)} {M0 M : Mem} (hn : 1700 ≤ n0) (hm : m ≤ 9999) (hO : PsO T.nt T.nc pm) (hI : PlI n0 q T m pm s M0 M) (hc : c < T.nc) (hmo : most ≤ 20) (hlo : lo ≤ 1) : okP (fX11_doesWithout n0 (nI c) x2 (nI lo) (nI most) M) (fun z => PlI n0 q T m pm s M0 z.2) := by
  have o2 := hI.2.1.2.1.2.1
  obtain ⟨r, M1, M2, e1, ⟨v, e2, e3⟩, I2⟩ := xpalm (n0 := n0) (x2 := x2) (lo := lo) hn hm hI hc (hO c hc) hmo hlo
  unfold fX11_doesWithout
  exact okP_be (xlook hI.2.2.1 o2 hc) (okP_be e1 (okP_be e2 (okP_t e3 (okP_some I2))))
abbrev xpFL (n0 : Nat) : Nat → Int32 → Int32 → Int32 → Int32 → Mem → Option (Int32 × Mem) := loopN (bX11_findGiving_3 n0) (fun _ _ _ _ _ => none)
theorem xfind {n0 q m c most : Nat} {x2 : Int32} {T : TP} {pm : Nat → Int32 × Nat} {s : Nat × List (Nat × Nat)} {M0 M : Mem} (hn : 1700 ≤ n0) (hm : m ≤ 9999) (hI : PlI n0 q T m pm s M0 M) (hc : c < T.nc) (hmo : most ≤ 20) : okP (fX11_findGiving n0 (nI c) x2 (nI most) M) (fun z => PlI n0 q T m pm s M0 z.2) := by
  have o1 := hI.2.1.2.1.1
  refine lpG (L := fun w k u => xpFL n0 w (nI c) x2 (nI most) (nI k) u) (n := T.nt) (I := fun u => PlI n0 q T m pm s M0 u) (fun w k u hk hu => ?_) (fun w u hu => ?_) n0 0 M (by omega) (by omega) hI
  · show okP (bX11_findGiving_3 n0 (xpFL n0 w) (nI c) x2 (nI most) (nI k) u) _ ∨ ∃ s', bX11_findGiving_3 n0 (xpFL n0 w) (nI c) x2 (nI most) (nI k) u = _ ∧ _
    have en : gI u (128 * gR u 1 + 1) = nI T.nt := by rw [hu.2.2.2]; exact hu.2.1.1.2.2.1
    have ng : ¬ gI u (128 * gR u 1 + 1) ≤ nI k := by rw [en]; exact nI_ge (by omega) (by omega)
    have eh : fX1_hold n0 (nI c) (nI k) 0 (gI u 1281) u = some (hld u (nI c) (nI k) (nI 0) (nI m)) := by rw [hu.2.2.1.2.2.1]; exact xhold
    obtain ⟨r, M1, M2, e1, ⟨v, e2, e3⟩, I2⟩ := xpalm (n0 := n0) (x2 := x2) (lo := 0) (t := nI k) (h := 0) hn hm hu hc ⟨Or.inr ⟨k, hk, rfl⟩, Nat.zero_le _⟩ hmo (by decide)
    unfold bX11_findGiving_3
    by_cases z : v = 0
    · exact Or.inr ⟨M2, eq_f ng (eq_b eh (eq_b e1 (eq_b e2 (eq_t z (by rw [show nI k + 1 = nI (k + 1) from nI_add k 1]))))), I2⟩
    · exact Or.inl (okP_f ng (okP_be eh (okP_be e1 (okP_be e2 (okP_f z (okP_some I2))))))
  · show okP (bX11_findGiving_3 n0 (xpFL n0 w) (nI c) x2 (nI most) (nI T.nt) u) _
    have en : gI u (128 * gR u 1 + 1) = nI T.nt := by rw [hu.2.2.2]; exact hu.2.1.1.2.2.1
    unfold bX11_findGiving_3
    exact okP_t (by rw [en]; exact Int32.le_refl _) (okP_some hu)
theorem PlI.a28 {n0 q m i : Nat} {v : Int32} {T : TP} {pm : Nat → Int32 × Nat} {s : Nat × List (Nat × Nat)} {M0 M : Mem} (h : PlI n0 q T m pm s M0 M) : PlI n0 q T m pm s M0 (sA M 28 i v) := h.fr (XF.r.a (by unfold scA; omega))
theorem PlI.nc {n0 q m : Nat} {T : TP} {pm : Nat → Int32 × Nat} {s : Nat × List (Nat × Nat)} {M0 M : Mem} (h : PlI n0 q T m pm s M0 M) : gI M (128 * gR M 1 + 5) = nI T.nc := by rw [h.2.2.2]; exact h.2.1.2.2.1
theorem xnoth {n0 q m most : Nat} {x1 : Int32} {T : TP} {pm : Nat → Int32 × Nat} {s : Nat × List (Nat × Nat)} {M0 M : Mem} (hn : 1700 ≤ n0) (hm : m ≤ 9999) (hO : PsO T.nt T.nc pm) (hI : PlI n0 q T m pm s M0 M) (hmo : most ≤ 20) : okP (fX11_planNothing n0 x1 (nI most) M) (fun z => PlI n0 q T m pm s M0 z.2) := by
  have o2 := hI.2.1.2.1.2.1
  have l28 : ∀ M1, PlI n0 q T m pm s M0 M1 → okP (fX11_planNothing_28 n0 x1 (nI most) 0 M1) (fun z => PlI n0 q T m pm s M0 z.2) := fun M1 I1 => by
    refine lpG (L := fun w k u => loopN (bX11_planNothing_28 n0) (fun _ _ _ _ => none) w x1 (nI most) (nI k) u) (n := T.nc) (I := fun u => PlI n0 q T m pm s M0 u) (fun w k u hk hu => ?_) (fun w u hu => ?_) n0 0 M1 (by omega) (by omega) I1
    · show okP (bX11_planNothing_28 n0 (loopN (bX11_planNothing_28 n0) (fun _ _ _ _ => none) w) x1 (nI most) (nI k) u) _ ∨ ∃ s', bX11_planNothing_28 n0 (loopN (bX11_planNothing_28 n0) (fun _ _ _ _ => none) w) x1 (nI most) (nI k) u = _ ∧ _
      have ng : ¬ gI u (128 * gR u 1 + 5) ≤ nI k := by rw [hu.nc]; exact nI_ge (by omega) (by omega)
      obtain ⟨⟨r, M2⟩, e1, I2⟩ := xwith (n0 := n0) (x2 := x1) (lo := 1) hn hm hO hu hk hmo (by decide)
      unfold bX11_planNothing_28
      by_cases z : r = 0
      · exact Or.inl (okP_f ng (okP_be e1 (okP_t z (okP_some I2))))
      · exact Or.inr ⟨M2, eq_f ng (eq_b e1 (eq_f z (by rw [show nI k + 1 = nI (k + 1) from nI_add k 1]))), I2⟩
    · show okP (bX11_planNothing_28 n0 (loopN (bX11_planNothing_28 n0) (fun _ _ _ _ => none) w) x1 (nI most) (nI T.nc) u) _
      unfold bX11_planNothing_28
      exact okP_t (by rw [hu.nc]; exact Int32.le_refl _) (okP_some hu)
  refine lpG (L := fun w k u => loopN (bX11_planNothing_2 n0) (fun _ _ _ _ => none) w x1 (nI most) (nI k) u) (n := T.nc) (I := fun u => PlI n0 q T m pm s M0 u) (fun w k u hk hu => Or.inr ?_) (fun w u hu => ?_) n0 0 M (by omega) (by omega) hI
  · show ∃ s', bX11_planNothing_2 n0 (loopN (bX11_planNothing_2 n0) (fun _ _ _ _ => none) w) x1 (nI most) (nI k) u = _ ∧ _
    have ng : ¬ gI u (128 * gR u 1 + 5) ≤ nI k := by rw [hu.nc]; exact nI_ge (by omega) (by omega)
    refine ⟨sA u 28 (Int32.toNatClampNeg (nI k)) (-1), ?_, hu.a28⟩
    unfold bX11_planNothing_2
    exact eq_f ng (eq_f (nI_in (by omega) (by decide)) (eq_n (by rw [show nI k + 1 = nI (k + 1) from nI_add k 1])))
  · show okP (bX11_planNothing_2 n0 (loopN (bX11_planNothing_2 n0) (fun _ _ _ _ => none) w) x1 (nI most) (nI T.nc) u) _
    unfold bX11_planNothing_2
    exact okP_t (by rw [hu.nc]; exact Int32.le_refl _) (l28 u hu)
theorem xneed {n0 q m most : Nat} {x1 : Int32} {T : TP} {pm : Nat → Int32 × Nat} {s : Nat × List (Nat × Nat)} {M0 M : Mem} (hn : 1700 ≤ n0) (hm : m ≤ 9999) (hO : PsO T.nt T.nc pm) (hI : PlI n0 q T m pm s M0 M) (hmo : most ≤ 20) : okP (fX11_planNeeded n0 x1 (nI most) M) (fun z => PlI n0 q T m pm s M0 z.2) := by
  have o2 := hI.2.1.2.1.2.1
  refine lpG (L := fun w k u => loopN (bX11_planNeeded_2 n0) (fun _ _ _ _ => none) w x1 (nI most) (nI k) u) (n := T.nc) (I := fun u => PlI n0 q T m pm s M0 u) (fun w k u hk hu => ?_) (fun w u hu => ?_) n0 0 M (by omega) (by omega) hI
  · show okP (bX11_planNeeded_2 n0 (loopN (bX11_planNeeded_2 n0) (fun _ _ _ _ => none) w) x1 (nI most) (nI k) u) _ ∨ ∃ s', bX11_planNeeded_2 n0 (loopN (bX11_planNeeded_2 n0) (fun _ _ _ _ => none) w) x1 (nI most) (nI k) u = _ ∧ _
    have ng : ¬ gI u (128 * gR u 1 + 5) ≤ nI k := by rw [hu.nc]; exact nI_ge (by omega) (by omega)
    have o : ¬ oob (nI k) 5 := nI_in (by omega) (by decide)
    have k1 : nI k + 1 = nI (k + 1) := nI_add k 1
    obtain ⟨⟨r, M2⟩, e1, I2⟩ := xwith (n0 := n0) (x2 := x1) (lo := 0) hn hm hO hu hk hmo (by decide)
    unfold bX11_planNeeded_2 fX11_planNeeded_49
    by_cases z : r = 0
    · obtain ⟨⟨r2, M3⟩, e2, I3⟩ := xfind (n0 := n0) (x2 := x1) hn hm I2 hk hmo
      have I4 : PlI n0 q T m pm s M0 (sA M3 28 (Int32.toNatClampNeg (nI k)) r2) := PlI.a28 I3
      by_cases z2 : gA (sA M3 28 (Int32.toNatClampNeg (nI k)) r2) 28 (Int32.toNatClampNeg (nI k)) = -1
      · exact Or.inl (okP_f ng (okP_be e1 (okP_t z (okP_be e2 (okP_f o (okP_bnd (okP_f o (okP_t z2 (okP_some I4)))))))))
      · exact Or.inr ⟨_, eq_f ng (eq_b e1 (eq_t z (eq_b e2 (eq_f o (eq_n (eq_f o (eq_f z2 (by rw [k1])))))))), I4⟩
    · exact Or.inr ⟨M2, eq_f ng (eq_b e1 (eq_f z (by rw [k1]))), I2⟩
  · show okP (bX11_planNeeded_2 n0 (loopN (bX11_planNeeded_2 n0) (fun _ _ _ _ => none) w) x1 (nI most) (nI T.nc) u) _
    unfold bX11_planNeeded_2
    exact okP_t (by rw [hu.nc]; exact Int32.le_refl _) (okP_some hu)
theorem xcnt {n0 q m : Nat} {T : TP} {pm : Nat → Int32 × Nat} {s : Nat × List (Nat × Nat)} {M0 M : Mem} (hn : 1700 ≤ n0) (hI : PlI n0 q T m pm s M0 M) : ∃ r, fX11_countPlanned n0 M = some (r, M) := by
  have o2 := hI.2.1.2.1.2.1
  have l : okP (fX11_countPlanned n0 M) (fun z => z.2 = M) := by
    refine lpG (L := fun w k (u : Int32) => loopN (bX11_countPlanned_4 n0) (fun _ _ _ => none) w u (nI k) M) (n := T.nc) (I := fun _ => True) (fun w k u hk _ => Or.inr ?_) (fun w u _ => ?_) n0 0 (0 : Int32) (by omega) (by omega) trivial
    · show ∃ s', bX11_countPlanned_4 n0 (loopN (bX11_countPlanned_4 n0) (fun _ _ _ => none) w) u (nI k) M = _ ∧ _
      have ng : ¬ gI M (128 * gR M 1 + 5) ≤ nI k := by rw [hI.nc]; exact nI_ge (by omega) (by omega)
      have k1 : nI k + 1 = nI (k + 1) := nI_add k 1
      unfold bX11_countPlanned_4 fX11_countPlanned_28
      by_cases z : gA M 28 (Int32.toNatClampNeg (nI k)) = -1
      · exact ⟨u, eq_f ng (eq_f (nI_in (by omega) (by decide)) (eq_t z (by rw [k1]))), trivial⟩
      · exact ⟨u + 1, eq_f ng (eq_f (nI_in (by omega) (by decide)) (eq_f z (by rw [k1]))), trivial⟩
    · show okP (bX11_countPlanned_4 n0 (loopN (bX11_countPlanned_4 n0) (fun _ _ _ => none) w) u (nI T.nc) M) _
      unfold bX11_countPlanned_4
      exact okP_t (by rw [hI.nc]; exact Int32.le_refl _) (okP_some rfl)
  obtain ⟨⟨r, M'⟩, a, e⟩ := l
  have e' : M' = M := e
  exact ⟨r, by rw [a, e']⟩
theorem nI_dn (k : Nat) : nI k + (-1 : Int32) = nI k - 1 := by rw [Int32.sub_eq_add_neg]
abbrev xpAL (n0 : Nat) : Nat → Int32 → Int32 → Int32 → Mem → Option (Int32 × Mem) := loopN (bX11_planAnywhere_10 n0) (fun _ _ _ _ => none)
theorem xanyw {n0 q m most : Nat} {x1 : Int32} {T : TP} {pm : Nat → Int32 × Nat} {s : Nat × List (Nat × Nat)} {M0 : Mem} (hn : 1700 ≤ n0) (hm : m ≤ 9999) (hmo : most ≤ 20) : ∀ w k M, k < w → k ≤ T.nc → PlI n0 q T m pm s M0 M → okP (xpAL n0 w x1 (nI most) (nI k - 1) M) (fun z => PlI n0 q T m pm s M0 z.2)
  | 0, k, M, hw, _, _ => by omega
  | w + 1, 0, M, hw, hk, hI => by
    show okP (bX11_planAnywhere_10 n0 (xpAL n0 w) x1 (nI most) (nI 0 - 1) M) _
    unfold bX11_planAnywhere_10
    exact okP_t (by decide) (okP_some hI)
  | w + 1, k + 1, M, hw, hk, hI => by
    show okP (bX11_planAnywhere_10 n0 (xpAL n0 w) x1 (nI most) (nI (k + 1) - 1) M) _
    have o2 := hI.2.1.2.1.2.1
    have e0 : nI (k + 1) - 1 = nI k := by rw [show (1 : Int32) = nI 1 from rfl, nI_subN (by omega)]; rfl
    have o : ¬ oob (nI k) 5 := nI_in (by omega) (by decide)
    rw [e0]
    obtain ⟨⟨r2, M3⟩, e2, I3⟩ := xfind (n0 := n0) (x2 := x1) hn hm hI (show k < T.nc by omega) hmo
    have I4 : PlI n0 q T m pm s M0 (sA M3 28 (Int32.toNatClampNeg (nI k)) r2) := PlI.a28 I3
    unfold bX11_planAnywhere_10
    refine okP_f (nI_nn (by omega)) (okP_be e2 (okP_f o (okP_bnd (okP_f o (okP_ite (fun _ => ?_) (fun _ => okP_some I4))))))
    rw [nI_dn]
    exact xanyw hn hm hmo w k _ (by omega) (by omega) I4
theorem xplan {n0 q b : Nat} {T : TP} {nr C m : Nat} {pm : Nat → Int32 × Nat} {s : Nat × List (Nat × Nat)} {x y z : Int32} {MX MY : Mem} (hn : 1700 ≤ n0) (h : RR n0 q b T nr C m pm s MX MY) : okP (fX11_plan n0 x y z MX) (fun u => XF scA MX u.2) := by
  obtain ⟨h1, h2, h3, h4, _⟩ := id h
  obtain ⟨o1, o2, o3, _⟩ := h1.2.2.2.1.2.1
  have hm := h2.1
  have e0 : ∀ {v : Int32}, okP (some (v, MX)) (fun u => XF scA MX u.2) := okP_some XF.r
  have I0 : PlI n0 q T m pm s MX MX := ⟨XF.r, h1.2.2.2.1, h3, h1.2.1⟩
  unfold fX11_plan
  refine okP_ite (fun _ => e0) (fun _ => okP_ite (fun _ => e0) (fun _ => okP_ite (fun _ => e0) (fun z1 => okP_ite (fun _ => e0) (fun z2 => ?_))))
  have ym : ∃ k, k ≤ 20 ∧ y = nI k := by
    rcases in_or (n := 21) y (by decide) with ⟨k, hk, rfl⟩ | u
    · exact ⟨k, by omega, rfl⟩
    · exfalso
      rcases u with u | u
      · exact z1 u
      · rw [i_lt] at z2
        rw [i_le] at u
        have a1 : (20 : Int32).toInt = 20 := rfl
        have a2 : (nI 21).toInt = 21 := rfl
        omega
  obtain ⟨mo, hmo, rfl⟩ := ym
  have n94 : ∀ (u0 : Int32) M, (z = -1 ∨ ∃ c, c < 5 ∧ z = nI c) → PlI n0 q T m pm s MX M → okP (fX11_plan_94 n0 z u0 M) (fun u => XF scA MX u.2) := fun u0 M hz hI => by
    obtain ⟨r, er⟩ := xcnt (n0 := n0) hn hI
    unfold fX11_plan_94
    refine okP_ite (fun _ => okP_some hI.1) (fun _ => okP_ite (fun _ => okP_be er (okP_some hI.1)) (fun z3 => ?_))
    rcases hz with hz | ⟨c, hc, rfl⟩
    · exact absurd hz z3
    · exact okP_f (nI_in hc (by decide)) (okP_some hI.1)
  have n55 : (z = -1 ∨ ∃ c, c < 5 ∧ z = nI c) → okP (fX11_plan_55 n0 x (nI mo) z MX) (fun u => XF scA MX u.2) := fun hz => by
    unfold fX11_plan_55 fX11_plan_89 fX11_plan_93
    refine okP_bind (xnoth hn hm h2.2.1 I0 hmo) (fun u1 I1 => okP_ite (fun _ => ?_) (fun _ => n94 _ _ hz I1))
    refine okP_bind (xneed hn hm h2.2.1 I1 hmo) (fun u2 I2 => okP_ite (fun _ => n94 _ _ hz I2) (fun _ => ?_))
    obtain ⟨r, er⟩ := xcnt (n0 := n0) hn I2
    refine okP_be er (okP_ite (fun _ => n94 _ _ hz I2) (fun _ => ?_))
    have ea : okP (fX11_planAnywhere n0 x (nI mo) u2.2) (fun u => PlI n0 q T m pm s MX u.2) := by
      unfold fX11_planAnywhere
      refine okP_bnd ?_
      rw [I2.nc]
      exact xanyw hn hm hmo n0 T.nc u2.2 (by omega) (Nat.le_refl _) I2
    exact okP_bind ea (fun u3 I3 => okP_ite (fun _ => n94 _ _ hz I3) (fun _ => n94 _ _ hz I3))
  refine okP_be (xbey h3 hm (by omega)) (okP_ite (fun _ => okP_ite (fun z3 => n55 (Or.inl z3)) (fun _ => ?_)) (fun _ => e0))
  rcases isCo h1 z with ⟨c, hc, rfl, e1, _⟩ | ⟨_, e1, _⟩
  · exact okP_be e1 (okP_f (show ¬ (1 : Int32) = 0 by decide) (n55 (Or.inr ⟨c, by omega, rfl⟩)))
  · exact okP_be e1 (okP_t rfl e0)
