/-! THE FACTS LAID BY THE CLASS -/
def xLay (w h c m e l : Int32) (M : Mem) : Mem := sI (sA (sA (sA (sA (sA (sA M 8 0 w) 8 1 h) 8 2 c) 8 3 m) 8 4 e) 8 5 l) 903 0
theorem xlayT {n0 q1 q t : Nat} {M : Mem} (hq : gR M 896 = q) (q8 : ¬ q + 3 = 8) (ht : t < 6) (h8 : gI M 898 = nI t) : fX1_valueOf_19 n0 q1 0 M = vL n0 q1 n0 (nI 0) (xLay (gA M (q + 2) t) (gI M 899) (gI M 897) (gI M 900) 0 (gA M (q + 3) t) M) := by
  have c : (nI t).toNatClampNeg = t := nI_clamp (by omega)
  have o : ¬ oob (gI M 898) 6 := by rw [h8]; exact nI_in ht (by decide)
  unfold fX1_valueOf_19 fX1_valueOf_45 fX1_valueOf_90 fX1_valueOf_116
  refine eq_t rfl (eq_f o (eq_f (by decide) (eq_n (eq_f (by decide) (eq_n (eq_f (by decide) (eq_n (eq_f (by decide) (eq_n (eq_t rfl (eq_f (by decide) (eq_n (eq_t rfl (eq_f o (eq_f (by decide) (eq_n (eq_n ?_)))))))))))))))))
  unfold xLay
  rw [h8, hq, c]
  simp only [gI_sA, h8, c]
  rw [show ∀ N : Mem, gR (sA (sA (sA (sA (sA N 8 (Int32.toNatClampNeg 0) (gA M (q + 2) t)) 8 (Int32.toNatClampNeg 1) (gI M 899)) 8 (Int32.toNatClampNeg 2) (gI M 897)) 8 (Int32.toNatClampNeg 3) (gI M 900)) 8 (Int32.toNatClampNeg 4) 0) 896 = gR N 896 from fun _ => rfl, hq]
  rw [gA_sA_ne q8, gA_sA_ne q8, gA_sA_ne q8, gA_sA_ne q8, gA_sA_ne q8]
  rfl
theorem xlayN {n0 q1 : Nat} {M : Mem} : fX1_valueOf_19 n0 q1 1 M = vL n0 q1 n0 (nI 0) (xLay 0 (gI M 899) (gI M 897) (gI M 900) 1 0 M) := by
  unfold fX1_valueOf_19 fX1_valueOf_45 fX1_valueOf_90 fX1_valueOf_116
  refine eq_f (by decide) (eq_f (by decide) (eq_n (eq_f (by decide) (eq_n (eq_f (by decide) (eq_n (eq_f (by decide) (eq_n (eq_f (by decide) (eq_f (by decide) (eq_n (eq_f (by decide) (eq_f (by decide) (eq_n (eq_n ?_)))))))))))))))
  rfl
theorem xvalT {n0 q1 q t nt : Nat} {M : Mem} (hq : gR M 896 = q) (q8 : ¬ q + 3 = 8) (hn : gI M (128 * q + 1) = nI nt) (hnt : nt ≤ 6) (ht : t < nt) (h8 : gI M 898 = nI t) : fX1_valueOf n0 q1 M = vL n0 q1 n0 (nI 0) (xLay (gA M (q + 2) t) (gI M 899) (gI M 897) (gI M 900) 0 (gA M (q + 3) t) M) := by
  have e : fX9_isThing n0 (gR M 896) (gI M 898) M = some (1, M) := by
    unfold fX9_isThing
    rw [hq, h8, hn]
    exact eq_f (fun z => absurd (show oob (nI t) 6 from Or.inl z) (nI_in (by omega) (by decide))) (eq_f (nI_ge ht (by omega)) rfl)
  unfold fX1_valueOf
  exact eq_b e (eq_f (show ¬ (1 : Int32) = 0 by decide) (xlayT hq q8 (by omega) h8))
theorem xvalN {n0 q1 : Nat} {M : Mem} (h8 : gI M 898 = -1) : fX1_valueOf n0 q1 M = vL n0 q1 n0 (nI 0) (xLay 0 (gI M 899) (gI M 897) (gI M 900) 1 0 M) := by
  have e : fX9_isThing n0 (gR M 896) (gI M 898) M = some (0, M) := by
    unfold fX9_isThing
    rw [h8]
    exact eq_t (by decide) rfl
  unfold fX1_valueOf
  exact eq_b e (eq_t rfl xlayN)
