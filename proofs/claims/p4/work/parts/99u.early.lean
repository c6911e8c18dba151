/-! EARLY COMES TO AN END -/
theorem xout {n0 q nr c : Nat} {T : TP} {M : Mem} (hn : 1700 ≤ n0) (hT : XT n0 q T M) (hR : XRd q T.nc nr M) (hc : c < T.nc) : okP (fX10_goOutFrom n0 q (nI c) M) (fun M' => XF scA M M') := by
  have hq := hT.1.1
  have r10 := hR.2.1
  have tw : ∀ M', XF scA M M' → xTw q M M' := fun M' f => f.tw hq scA31
  have l27 : ∀ (k11 : Int32 → Mem → Option Mem) (k : Nat) (M1 : Mem), k ≤ 60 → XF scA M M1 → ∃ M2, loopN (bX10_goOutFrom_27 n0 q k11) (fun _ _ _ => none) n0 (nI k) (nI 0) M1 = k11 (nI (k + 1)) M2 ∧ XF scA M M2 := fun k11 k M1 hk hI => by
    refine lpC (L := fun w r s => loopN (bX10_goOutFrom_27 n0 q k11) (fun _ _ _ => none) w (nI k) (nI r) s) (F := fun s => k11 (nI (k + 1)) s) (n := nr) (I := XF scA M) (fun w r s hr hs => ?_) (fun w s hs => ?_) n0 0 M1 (by omega) (by omega) hI
    · show ∃ s', bX10_goOutFrom_27 n0 q k11 (loopN (bX10_goOutFrom_27 n0 q k11) (fun _ _ _ => none) w) (nI k) (nI r) s = _ ∧ _
      have Rs := hR.tw (tw s hs)
      obtain ⟨a', c', v, a1, a2, a3, a4, a5, a6, a7⟩ := Rs.2.2 r hr
      have cr : (nI r).toNatClampNeg = r := nI_clamp (by omega)
      have or : ¬ oob (nI r) 10 := nI_in (by omega) (by decide)
      have r1 : nI r + 1 = nI (r + 1) := nI_add r 1
      have st : ¬ gI s (128 * q + 8) ≤ nI r := by rw [Rs.1]; exact nI_ge hr (by omega)
      by_cases g : v ≤ k
      · have ac : fX10_across n0 q (nI r) (gA s 20 (nI (k - v)).toNatClampNeg) s = some ((((gA s 20 (nI (k - v)).toNatClampNeg >>> (nI a' &&& 31)) &&& (1 : Int32)) <<< (nI c' &&& 31)) ||| (((gA s 20 (nI (k - v)).toNatClampNeg >>> (nI c' &&& 31)) &&& (1 : Int32)) <<< (nI a' &&& 31)), s) := by
          unfold fX10_across
          exact eq_f or (eq_e (v' := nI a') (by rw [cr, a5]) (eq_f or (eq_e (v' := nI c') (by rw [cr, a6]) rfl)))
        refine ⟨?wt1, ?_, ?_⟩
        rotate_left
        · unfold bX10_goOutFrom_27 fX10_goOutFrom_74
          refine eq_f st (eq_f or (eq_e (v' := nI (k - v)) (by rw [cr, a7, nI_subN g]) (eq_f (nI_nn (by omega)) (eq_f (nI_in (by omega) (by decide)) (eq_f (nI_in (by omega) (by decide)) (eq_b ac (eq_f (nI_in (by omega) (by decide)) ?_)))))))
          rw [r1]
        · exact hs.a (by unfold scA; omega)
      · refine ⟨s, ?_, hs⟩
        unfold bX10_goOutFrom_27 fX10_goOutFrom_74
        refine eq_f st (eq_f or (eq_n (eq_t ?_ ?_)))
        · rw [cr, a7, i_lt, nz, nz, zI_sub, zI_toInt (by omega) (by omega), show (0 : Int32).toInt = 0 from rfl]
          omega
        · rw [r1]
    · refine ⟨s, ?_, hs⟩
      show bX10_goOutFrom_27 n0 q k11 (loopN (bX10_goOutFrom_27 n0 q k11) (fun _ _ _ => none) w) (nI k) (nI nr) s = _
      have Rs := hR.tw (tw s hs)
      unfold bX10_goOutFrom_27
      refine eq_t (by rw [Rs.1]; exact Int32.le_refl _) ?_
      rw [show nI k + 1 = nI (k + 1) from nI_add k 1]
  have l11 : ∀ M1, XF scA M M1 → okP (loopN (bX10_goOutFrom_11 n0 q) (fun _ _ => none) n0 (nI 1) M1) (fun M' => XF scA M M') := fun M1 hI => by
    refine lpG (L := fun w k s => loopN (bX10_goOutFrom_11 n0 q) (fun _ _ => none) w (nI k) s) (n := 61) (I := XF scA M) (fun w k s hk hs => Or.inr ?_) (fun w s hs => ?_) n0 1 M1 (by omega) (by omega) hI
    · show ∃ s', bX10_goOutFrom_11 n0 q (loopN (bX10_goOutFrom_11 n0 q) (fun _ _ => none) w) (nI k) s = _ ∧ _
      obtain ⟨s2, e2, i2⟩ := l27 (loopN (bX10_goOutFrom_11 n0 q) (fun _ _ => none) w) k (sA s 20 (nI k).toNatClampNeg 0) (by omega) (hs.a (by unfold scA; omega))
      refine ⟨s2, ?_, i2⟩
      unfold bX10_goOutFrom_11
      exact eq_f (fun z => by have := (nI_ltI (a := 60) (by decide) (by omega)).mp z; omega) (eq_f (nI_in (by omega) (by decide)) (eq_n e2))
    · show okP (bX10_goOutFrom_11 n0 q (loopN (bX10_goOutFrom_11 n0 q) (fun _ _ => none) w) (nI 61) s) _
      unfold bX10_goOutFrom_11
      exact okP_t (by decide) (okP_some hs)
  unfold fX10_goOutFrom
  exact okP_f (by decide) (okP_bnd (l11 _ (XF.r.a (by unfold scA; omega))))
theorem xearly {n0 q nr c m : Nat} {T : TP} {pm : Nat → Int32 × Nat} {s : Nat × List (Nat × Nat)} {M : Mem} (hn : 1700 ≤ n0) (hT : XT n0 q T M) (hS : SX q T.nc T.nd m pm s M) (hO : PsO T.nt T.nc pm) (hR : XRd q T.nc nr M) (hq1 : gR M 1 = q) (hc : c < T.nc) (hm : m ≤ 9999) : okP ((fX11_foresee n0 26 (nI c) (60 : Int32) M).bind fun z21 => (fX10_goOutFrom n0 (gR z21.2 1) (nI c) z21.2).bind fun z34 => fX11_early_39 n0 (nI c) z21.1 (1 : Int32) z34) (fun z => XF scA M z.2) := by
  obtain ⟨X1, a1, a2, a3⟩ := xfc (n0 := n0) (q1 := 26) (most := 60) hn hT hS hO hc hm (by decide) (Or.inl rfl)
  have f1 : XF scA M X1 := a3.wk (fun a y => by unfold scA; omega)
  have T1 := hT.xf f1 scA31
  obtain ⟨X2, b1, b2⟩ := xout (n0 := n0) hn T1 (hR.tw (f1.tw hT.1.1 scA31)) hc
  refine okP_be a1 (okP_be (z := X2) (by rw [show gR X1 1 = q by rw [f1.1]; exact hq1]; exact b1) ?_)
  have f2 := f1.tr b2
  show okP (loopN (bX11_early_39 n0) (fun _ _ _ _ => none) n0 (nI c) (nI (min 60 (9999 - m))) (nI 1) X2) (fun z => XF scA M z.2)
  refine lpG (L := fun w k s => loopN (bX11_early_39 n0) (fun _ _ _ _ => none) w (nI c) (nI (min 60 (9999 - m))) (nI k) s) (n := min 60 (9999 - m) + 1) (I := XF scA M) (fun w k s hk hs => ?_) (fun w s hs => ?_) n0 1 X2 (by omega) (by omega) f2
  · show okP (bX11_early_39 n0 (loopN (bX11_early_39 n0) (fun _ _ _ _ => none) w) (nI c) (nI (min 60 (9999 - m))) (nI k) s) _ ∨ ∃ s', bX11_early_39 n0 (loopN (bX11_early_39 n0) (fun _ _ _ _ => none) w) (nI c) (nI (min 60 (9999 - m))) (nI k) s = _ ∧ _
    have k1 : nI k + 1 = nI (k + 1) := nI_add k 1
    have st : ¬ nI (min 60 (9999 - m)) < nI k := fun z => by have := (nI_ltI (by omega) (by omega)).mp z; omega
    obtain ⟨r, er⟩ : ∃ r, fX10_canBeAt n0 (nI c) (nI k) s = some (r, s) := by
      unfold fX10_canBeAt
      by_cases z : ((gA s 20 (nI k).toNatClampNeg >>> (nI c &&& 31)) &&& (1 : Int32)) = 1
      · exact ⟨1, eq_f (nI_nn (by omega)) (eq_f (fun z => by have := (nI_ltI (a := 60) (by decide) (by omega)).mp z; omega) (eq_f (nI_in (by omega) (by decide)) (eq_t z rfl)))⟩
      · exact ⟨0, eq_f (nI_nn (by omega)) (eq_f (fun z => by have := (nI_ltI (a := 60) (by decide) (by omega)).mp z; omega) (eq_f (nI_in (by omega) (by decide)) (eq_f z rfl)))⟩
    unfold bX11_early_39 fX11_early_73
    rw [k1]
    by_cases z : r = 0
    · exact Or.inr ⟨s, eq_f st (eq_b er (eq_t z rfl)), hs⟩
    · by_cases y : gA s 26 (Int32.toNatClampNeg 0) ≤ gA s 26 (nI k).toNatClampNeg
      · exact Or.inr ⟨s, eq_f st (eq_b er (eq_f z (eq_f (nI_in (by omega) (by decide)) (eq_f (by decide) (eq_t y rfl))))), hs⟩
      · exact Or.inl ⟨_, eq_f st (eq_b er (eq_f z (eq_f (nI_in (by omega) (by decide)) (eq_f (by decide) (eq_f y rfl))))), hs⟩
  · show okP (bX11_early_39 n0 (loopN (bX11_early_39 n0) (fun _ _ _ _ => none) w) (nI c) (nI (min 60 (9999 - m))) (nI (min 60 (9999 - m) + 1)) s) _
    unfold bX11_early_39
    exact okP_t (nI_lt (by omega) (by omega)) (okP_some hs)
def YSt (b : Nat) (M : Mem) : Prop := ∀ a c, a < 5 → c < 5 → ∃ v, v ≤ 30 ∧ gA M 8 (25 * b + 5 * a + c) = nI v
theorem RT.st {n0 q b : Nat} {T : TP} {nr C : Nat} {MX MY : Mem} (h : RT n0 q b T nr C MX MY) : YSt b MY := fun a c ha hc => by
  obtain ⟨c1, c2, c3⟩ := h.2.2.2.2.2.1.2.2.2.2.1
  rw [Nat.add_assoc]
  rcases c3.2.2 a c ha hc with ⟨z, _⟩ | ⟨k, hk, _, z⟩
  · exact ⟨0, by omega, z⟩
  · obtain ⟨_, _, v, _, _, _, _, v2, _, _, v3⟩ := c3.2.1 k hk
    exact ⟨v, v2, (show gA MY 8 (25 * b + (5 * a + c)) = _ from z).trans v3⟩
def eP (a i : Nat) : Prop := lP 1 a i ∨ a = 38
theorem eP28 : ∀ a i, eP a i → 28 ≤ a := fun a i z => by unfold eP lP tP dP at z; omega
theorem ePn : ¬ eP 28 0 := fun z => by unfold eP lP tP dP at z; omega
theorem ePsc {M M' : Mem} (f : YF eP M M') : YF scP M M' := f.wk (fun a i z => z.elim (fun y => Or.inl y) (fun y => Or.inr (Or.inl (by omega))))
theorem le1 {M M' : Mem} (f : YF (lP 1) M M') : YF eP M M' := f.wk (fun _ _ z => Or.inl z)
theorem yearly {n0 b c m : Nat} {T : TP} {pm : Nat → Int32 × Nat} {s : Nat × List (Nat × Nat)} {M : Mem} (hn : 1700 ≤ n0) (hY : YT n0 b T M) (hL : LyD 0 T.nc m pm s M) (hO : PsO T.nt T.nc pm) (hs : sOk T.nd s) (hSt : YSt b M) (hc : c < T.nc) (hm : m ≤ 9999) : okP (fX12_early_21 n0 (nI c) (1 : Int32) M) (fun z => YF eP M z.2) := by
  obtain ⟨o1, o2, o3, _⟩ := hY.2.1
  have hb := hY.2.2.1
  have hl := hs.l
  have h13 : ∀ M', YF eP M M' → gI M' 13 = nI b := fun M' f => by rw [f.2.2.1]; exact hY.2.2.2.1
  have St : ∀ M', YF eP M M' → YSt b M' := fun M' f a c' ha hc' => by
    rw [f.gA (a := 8) (fun i z => by unfold eP lP tP dP at z; omega) (by decide)]
    exact hSt a c' ha hc'
  -- from one corner
  have l44 : ∀ (k21 : Int32 → Int32 → Mem → Option (Int32 × Mem)) (k36 : Int32 → Int32 → Int32 → Mem → Option (Int32 × Mem)) (n a : Nat) (M1 : Mem), 1 ≤ n → n ≤ 60 → a < 5 → YF eP M M1 → ∃ M2, loopN (bX12_early_44 n0 k21 k36) (fun _ _ _ _ _ => none) n0 (nI c) (nI n) (nI a) (nI 0) M1 = k36 (nI c) (nI n) (nI (a + 1)) M2 ∧ YF eP M M2 := fun k21 k36 n a M1 hn1 hn2 ha hI => by
    refine lpC (L := fun w k s => loopN (bX12_early_44 n0 k21 k36) (fun _ _ _ _ _ => none) w (nI c) (nI n) (nI a) (nI k) s) (F := fun s => k36 (nI c) (nI n) (nI (a + 1)) s) (n := 5) (I := YF eP M) (fun w k s hk hs => ?_) (fun w s hs => ?_) n0 0 M1 (by omega) (by omega) hI
    · show ∃ s', bX12_early_44 n0 k21 k36 (loopN (bX12_early_44 n0 k21 k36) (fun _ _ _ _ _ => none) w) (nI c) (nI n) (nI a) (nI k) s = _ ∧ _
      obtain ⟨v, v1, v2⟩ := St s hs a k ha hk
      have ea : fX12_at n0 (gI s 13) (nI a) (nI k) s = some (nI (25 * b + 5 * a + k), s) := by
        unfold fX12_at
        rw [h13 s hs, y25Ix]
      have oi : ¬ oob (nI (25 * b + 5 * a + k)) 50 := nI_in (by omega) (by decide)
      have on : ¬ oob (nI n) 61 := nI_in (by omega) (by decide)
      have cn : (nI n).toNatClampNeg = n := nI_clamp (by omega)
      have k1 : nI k + 1 = nI (k + 1) := nI_add k 1
      have ev : gA s 8 (nI (25 * b + 5 * a + k)).toNatClampNeg = nI v := by rw [nI_clamp (by omega)]; exact v2
      have st : ¬ (5 : Int32) ≤ nI k := nI_ge (b := 5) hk (by decide)
      have go : ∀ u2 u3, fX12_early_110 n0 k21 k36 (loopN (bX12_early_44 n0 k21 k36) (fun _ _ _ _ _ => none) w) (nI c) (nI n) (nI a) (nI k) (nI n) u2 u3 s = loopN (bX12_early_44 n0 k21 k36) (fun _ _ _ _ _ => none) w (nI c) (nI n) (nI a) (nI (k + 1)) (sA s 38 n (u2 ||| u3)) := fun u2 u3 => by
        unfold fX12_early_110
        refine eq_f on (eq_n ?_)
        rw [cn, k1]
      have fs : ∀ u, YF eP M (sA s 38 n u) := fun u => hs.a (Or.inr rfl)
      unfold bX12_early_44
      by_cases g1 : v = 0
      · refine ⟨?wt2, eq_f st (eq_b ea (eq_f oi (eq_e ev (eq_f on (eq_t (by rw [g1]; decide) ?_))))), ?_⟩
        rotate_left
        · unfold fX12_early_109
          exact go _ _
        · exact fs _
      · have g1' : ¬ nI v ≤ 0 := nI_ge (a := 0) (by omega) (by omega)
        by_cases g2 : n < v
        · refine ⟨?wt3, eq_f st (eq_b ea (eq_f oi (eq_e ev (eq_f on (eq_f g1' (eq_t (nI_lt g2 (by omega)) ?_)))))), ?_⟩
          rotate_left
          · unfold fX12_early_109
            exact go _ _
          · exact fs _
        · have g2' : ¬ nI n < nI v := fun z => g2 ((nI_ltI (by omega) (by omega)).mp z)
          have od : ¬ oob (nI n - nI v) 61 := by rw [nI_subN (by omega)]; exact nI_in (by omega) (by decide)
          obtain ⟨r, er⟩ : ∃ r, fX12_has2 n0 (gA s 38 (nI n - nI v).toNatClampNeg) (nI a) s = some (r, s) := by
            unfold fX12_has2
            by_cases z : ((gA s 38 (nI n - nI v).toNatClampNeg >>> (nI a &&& 31)) &&& (1 : Int32)) = 1
            · exact ⟨1, eq_t z rfl⟩
            · exact ⟨0, eq_f z rfl⟩
          by_cases g3 : r = 0
          · refine ⟨?wt4, eq_f st (eq_b ea (eq_f oi (eq_e ev (eq_f on (eq_f g1' (eq_f g2' (eq_f od (eq_b er (eq_t g3 ?_))))))))), ?_⟩
            rotate_left
            · unfold fX12_early_109
              exact go _ _
            · exact fs _
          · refine ⟨?wt5, eq_f st (eq_b ea (eq_f oi (eq_e ev (eq_f on (eq_f g1' (eq_f g2' (eq_f od (eq_b er (eq_f g3 ?_))))))))), ?_⟩
            rotate_left
            · exact go _ _
            · exact fs _
    · refine ⟨s, ?_, hs⟩
      show bX12_early_44 n0 k21 k36 (loopN (bX12_early_44 n0 k21 k36) (fun _ _ _ _ _ => none) w) (nI c) (nI n) (nI a) (nI 5) s = _
      unfold bX12_early_44
      refine eq_t (by decide) ?_
      rw [show nI a + 1 = nI (a + 1) from nI_add a 1]
  -- one minute
  have l36 : ∀ (k21 : Int32 → Int32 → Mem → Option (Int32 × Mem)) (n : Nat) (M1 : Mem), 1 ≤ n → n ≤ 60 → YF eP M M1 → ∃ M2, loopN (bX12_early_36 n0 k21) (fun _ _ _ _ => none) n0 (nI c) (nI n) (nI 0) M1 = k21 (nI c) (nI (n + 1)) M2 ∧ YF eP M M2 := fun k21 n M1 hn1 hn2 hI => by
    refine lpC (L := fun w k s => loopN (bX12_early_36 n0 k21) (fun _ _ _ _ => none) w (nI c) (nI n) (nI k) s) (F := fun s => k21 (nI c) (nI (n + 1)) s) (n := 5) (I := YF eP M) (fun w k s hk hs => ?_) (fun w s hs => ?_) n0 0 M1 (by omega) (by omega) hI
    · show ∃ s', bX12_early_36 n0 k21 (loopN (bX12_early_36 n0 k21) (fun _ _ _ _ => none) w) (nI c) (nI n) (nI k) s = _ ∧ _
      obtain ⟨s2, e2, i2⟩ := l44 k21 (loopN (bX12_early_36 n0 k21) (fun _ _ _ _ => none) w) n k s hn1 hn2 hk hs
      refine ⟨s2, ?_, i2⟩
      unfold bX12_early_36
      exact eq_f (nI_ge (b := 5) hk (by decide)) e2
    · refine ⟨s, ?_, hs⟩
      show bX12_early_36 n0 k21 (loopN (bX12_early_36 n0 k21) (fun _ _ _ _ => none) w) (nI c) (nI n) (nI 5) s = _
      unfold bX12_early_36
      refine eq_t (by decide) ?_
      rw [show nI n + 1 = nI (n + 1) from nI_add n 1]
  -- minutes ahead
  have l145 : ∀ (x2 : Int32) w k M1, k ≤ min 60 (9999 - m) + 1 → 1 ≤ k → min 60 (9999 - m) + 1 < w + k → YF eP M M1 → LyD 1 T.nc (m + (k - 1)) (trP T m pm (k - 1)) s M1 → okP (loopN (bX12_early_145 n0) (fun _ _ _ _ => none) w (nI c) x2 (nI k) M1) (fun z => YF eP M z.2) := fun x2 w => by
    induction w with
    | zero => intro k M1 hk _ hw _ _; omega
    | succ w ih =>
      intro k M1 hk hk1 hw hI hL1
      show okP (bX12_early_145 n0 (loopN (bX12_early_145 n0) (fun _ _ _ _ => none) w) (nI c) x2 (nI k) M1) _
      have m28 : gA M1 28 0 = nI m := m28f hL.1.1 hI ePn
      have Y1 := hY.yf hI eP28
      unfold bX12_early_145 fX12_early_186
      rw [show nI k + 1 = nI (k + 1) from nI_add k 1]
      by_cases g : k = min 60 (9999 - m) + 1
      · exact okP_be (yahF (lo := 1) (hi := 60) m28 hm (by decide) (by decide) (by omega) (by omega)) (okP_t rfl (okP_some hI))
      · obtain ⟨j, rfl⟩ : ∃ j, k = j + 1 := ⟨k - 1, by omega⟩
        rw [Nat.add_sub_cancel] at hL1
        obtain ⟨M2, g1, g2, g3⟩ := ytickD (v := 1) hn Y1 (by decide) hL1 (trP_ok hO j) hs (by omega)
        have f2 := hI.tr (le1 g3)
        obtain ⟨r, er⟩ : ∃ r, fX12_has2 n0 (gA M2 38 (nI (j + 1)).toNatClampNeg) (nI c) M2 = some (r, M2) := by
          unfold fX12_has2
          by_cases z : ((gA M2 38 (nI (j + 1)).toNatClampNeg >>> (nI c &&& 31)) &&& (1 : Int32)) = 1
          · exact ⟨1, eq_t z rfl⟩
          · exact ⟨0, eq_f z rfl⟩
        refine okP_be (yahT (lo := 1) (hi := 60) m28 (by omega) (by omega) (by decide) (by omega)) (okP_f (show ¬ (1 : Int32) = 0 by decide) (okP_be g1 (okP_f (nI_in (by omega) (by decide)) (okP_be er (okP_ite (fun _ => ?_) (fun _ => ?_))))))
        · exact ih (j + 1 + 1) M2 (by omega) (by omega) (by omega) f2 g2
        · obtain ⟨_, M3, e1, e2⟩ := yhr (hY.yf f2 eP28) (v := 1) (by decide) g2.1 (trP_ok hO (j + 1)) (by omega) hc
          have f3 := f2.tr (e2.y : YF eP M2 M3)
          refine okP_be e1 (okP_ite (fun _ => ?_) (fun _ => okP_some f3))
          exact ih (j + 1 + 1) M3 (by omega) (by omega) (by omega) f3 (LyD.fr (P := fun _ _ => False) g2 e2.y o2 (by omega) (fun _ _ z => z.elim))
  refine lpG (L := fun w k s => loopN (bX12_early_21 n0) (fun _ _ _ => none) w (nI c) (nI (k + 1)) s) (n := 60) (I := YF eP M) (fun w k s' hk hs' => ?_) (fun w s' hs' => ?_) n0 0 M (by omega) (by omega) YF.r
  · show okP (bX12_early_21 n0 (loopN (bX12_early_21 n0) (fun _ _ _ => none) w) (nI c) (nI (k + 1)) s') _ ∨ ∃ s'', bX12_early_21 n0 (loopN (bX12_early_21 n0) (fun _ _ _ => none) w) (nI c) (nI (k + 1)) s' = _ ∧ _
    obtain ⟨s2, e2, i2⟩ := l36 (loopN (bX12_early_21 n0) (fun _ _ _ => none) w) (k + 1) (sA s' 38 (nI (k + 1)).toNatClampNeg 0) (by omega) (by omega) (hs'.a (Or.inr rfl))
    refine Or.inr ⟨s2, ?_, i2⟩
    unfold bX12_early_21
    exact eq_f (fun z => by have := (nI_ltI (a := 60) (by decide) (by omega)).mp z; omega) (eq_f (nI_in (by omega) (by decide)) (eq_n e2))
  · show okP (bX12_early_21 n0 (loopN (bX12_early_21 n0) (fun _ _ _ => none) w) (nI c) (nI (60 + 1)) s') _
    have Y1 := hY.yf hs' eP28
    have L1 : LyD 0 T.nc m pm s s' := hL.fr hs' o2 (by omega) (fun a i z y => by unfold eP lP tP dP at z; unfold lP tP dP at y; omega)
    obtain ⟨_, M2, e1, e2⟩ := yhr Y1 (v := 0) (by decide) L1.1 hO (by omega) hc
    have L2 : LyD 0 T.nc m pm s M2 := LyD.fr (P := fun _ _ => False) L1 e2.y o2 (by omega) (fun _ _ z => z.elim)
    obtain ⟨M3, b1, b2, b3⟩ := ycopyD (n0 := n0) (v := 1) (u := 0) hn (by decide) (by decide) (by decide) o2 (by omega) L2
    unfold bX12_early_21
    exact okP_t (by decide) (okP_be e1 (okP_be b1 (l145 _ n0 1 M3 (by omega) (by omega) (by omega) (hs'.tr ((e2.y : YF eP s' M2).tr (le1 b3))) b2)))
theorem nEarly {n0 : Nat} {x : Int32} {MX MY : Mem} (hn : 1700 ≤ n0) (h : R n0 MX MY) : CalN n0 (fX11_early n0 x MX) (fX12_early n0 x MY) := by
  obtain ⟨q, b, T, nr, C, m, pm, s, h⟩ := h
  obtain ⟨h1, h2, h3, h4, _⟩ := id h
  obtain ⟨o1, o2, o3, _⟩ := h1.2.2.2.1.2.1
  have hl := h2.2.2.l
  unfold fX11_early fX12_early
  rcases isCo h1 x with ⟨c, hc, rfl, e1, e2⟩ | ⟨_, e1, e2⟩
  · have f1 : YF eP MY (sA MY 38 (Int32.toNatClampNeg 0) ((1 : Int32) <<< (nI c &&& 31))) := YF.r.a (Or.inr rfl)
    obtain ⟨⟨r, Y⟩, a1, a2⟩ := yearly (n0 := n0) hn (h1.2.2.2.2.1.yf f1 eP28) (h4.fr f1 o2 (by omega) (fun a i z y => by unfold eP lP tP dP at z; unfold lP tP dP at y; omega)) h2.2.1 h2.2.2 (show YSt b (sA MY 38 (Int32.toNatClampNeg 0) ((1 : Int32) <<< (nI c &&& 31))) from fun a c' ha hc' => by rw [gA_sA_ne (by decide)]; exact h1.st a c' ha hc') hc h2.1
    refine CalN.scr h (okP_be e1 (okP_f (show ¬ (1 : Int32) = 0 by decide) (xearly hn h1.2.2.2.1 h3 h2.2.1 h1.rd h1.2.1 hc h2.1))) ⟨_, eq_b e2 (eq_f (show ¬ (1 : Int32) = 0 by decide) (eq_f (by decide) (eq_n a1))), ePsc (f1.tr a2)⟩
  · exact CalN.scr h ⟨_, eq_b e1 (eq_t rfl rfl), XF.r⟩ ⟨_, eq_b e2 (eq_t rfl rfl), YF.r⟩
