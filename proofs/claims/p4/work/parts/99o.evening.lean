/-! EVENINGS ON BOTH SIDES -/
def stay (f : Nat → Nat) : Nat → Nat → Nat
  | k, 0 => k
  | k, r + 1 => if f (k + 1) = f 0 then stay f (k + 1) r else k
theorem stay_le (f : Nat → Nat) : ∀ r k, stay f k r ≤ k + r
  | 0, k => Nat.le_refl _
  | r + 1, k => by
    show (if f (k + 1) = f 0 then stay f (k + 1) r else k) ≤ _
    by_cases g : f (k + 1) = f 0
    · rw [if_pos g]
      have := stay_le f r (k + 1)
      omega
    · rw [if_neg g]; omega
abbrev xtL (n0 : Nat) : Nat → Int32 → Int32 → Mem → Option (Int32 × Mem) := loopN (bX11_countStaying_34 n0) (fun _ _ _ => none)
theorem xsty {n0 last : Nat} {f : Nat → Nat} {M : Mem} (h60 : last ≤ 60) (hf : ∀ j, j ≤ last → f j ≤ 23) (h1 : ∀ j, j ≤ last → gA M 26 j = nI (f j)) : ∀ w k, k ≤ last → last + 1 < w + k + 1 → xtL n0 w (nI last) (nI (k + 1)) M = some (nI (stay f k (last - k)), M)
  | 0, k, hk, hw => by omega
  | w + 1, k, hk, hw => by
    show bX11_countStaying_34 n0 (xtL n0 w) (nI last) (nI (k + 1)) M = _
    unfold bX11_countStaying_34
    by_cases z : k = last
    · rw [z, Nat.sub_self]
      exact eq_t (nI_lt (by omega) (by omega)) rfl
    · have ck : (nI (k + 1)).toNatClampNeg = k + 1 := nI_clamp (by omega)
      have ok : ¬ oob (nI (k + 1)) 61 := nI_in (by omega) (by decide)
      have b1 := hf (k + 1) (by omega)
      have b0 := hf 0 (by omega)
      have st : ¬ nI last < nI (k + 1) := fun y => by have := (nI_ltI (by omega) (by omega)).mp y; omega
      have h0 : gA M 26 (Int32.toNatClampNeg 0) = nI (f 0) := h1 0 (by omega)
      rw [show last - k = (last - (k + 1)) + 1 by omega]
      show _ = some (nI (if f (k + 1) = f 0 then stay f (k + 1) (last - (k + 1)) else k), M)
      by_cases y : f (k + 1) = f 0
      · rw [if_pos y]
        refine eq_f st (eq_f ok (eq_f (by decide) (eq_t (by rw [ck, h1 _ (by omega), h0, y]) ?_)))
        rw [show nI (k + 1) + 1 = nI (k + 1 + 1) from nI_add (k + 1) 1]
        exact xsty h60 hf h1 w (k + 1) (by omega) (by omega)
      · rw [if_neg y]
        exact eq_f st (eq_f ok (eq_f (by decide) (eq_f (by rw [ck, h1 _ (by omega), h0]; exact fun u => y ((nI_eq (by omega) (by omega)).mp u)) (by rw [nIs]))))
theorem xcs {n0 q c m : Nat} {t : Int32} {T : TP} {pm : Nat → Int32 × Nat} {s : Nat × List (Nat × Nat)} {M : Mem} (hn : 1700 ≤ n0) (hT : XT n0 q T M) (hS : SX q T.nc T.nd m pm s M) (hc : c < T.nc) (ht : tOk T.nt t) (hm : m ≤ 9999) (hf : ∀ j, j ≤ min 60 (9999 - m) → hrs T.hF T.gF c m (t, 0) j ≤ 23) : ∃ M', fX11_countStaying n0 (nI c) t M = some (nI (stay (hrs T.hF T.gF c m (t, 0)) 0 (min 60 (9999 - m))), M') ∧ XF (fun a => a = 26) M M' := by
  have h5 := hT.2.1.2.1
  have f1 : XF (fun a => a = 26) M (hld M (nI c) t (nI 0) (nI m)) := hld_f
  obtain ⟨M2, e1, e2, e3⟩ := xfor (n0 := n0) (q1 := 26) (most := 60) hn (hT.1.xf f1 (fun a z => by omega)) (hld_p (h := 0) hS.1) (by omega) ⟨ht, Nat.zero_le _⟩ hm (by decide) (Or.inl rfl)
  refine ⟨M2, ?_, f1.tr e3⟩
  unfold fX11_countStaying
  rw [hS.2.2.1]
  exact eq_b (z := hld M (nI c) t (nI 0) (nI m)) xhold (eq_b e1 (xsty (by omega) hf e2 n0 0 (by omega) (by omega)))
theorem pmu {T : TP} {m c : Nat} {pm : Nat → Int32 × Nat} {v : Int32 × Nat} {k : Nat} : trP T m (upP pm c v) k c = tr T.gF c m v k := by
  show tr T.gF c m (if c = c then v else pm c) k = _
  rw [if_pos rfl]
abbrev yvL (n0 : Nat) (k27 : Int32 → Int32 → Int32 → Int32 → Int32 → Mem → Option (Int32 × Mem)) : Nat → Int32 → Int32 → Int32 → Int32 → Int32 → Int32 → Int32 → Int32 → Int32 → Mem → Option (Int32 × Mem) := loopN (bX12_evening_72 n0 k27) (fun _ _ _ _ _ _ _ _ _ _ => none)
theorem ysty {n0 b c m : Nat} {T : TP} {pm : Nat → Int32 × Nat} {v : Int32 × Nat} {s : Nat × List (Nat × Nat)} {k27 : Int32 → Int32 → Int32 → Int32 → Int32 → Mem → Option (Int32 × Mem)} {x2 x3 x4 x5 : Int32} (hn : 1700 ≤ n0) (hc : c < T.nc) (hO : PsO T.nt T.nc (upP pm c v)) (hs : sOk T.nd s) (hm : m ≤ 9999) (hf : ∀ j, j ≤ min 60 (9999 - m) → hrs T.hF T.gF c m v j ≤ 23) : ∀ w k M, k ≤ min 60 (9999 - m) → min 60 (9999 - m) + 2 < w + k + 1 → YT n0 b T M → LyD 1 T.nc (m + k) (trP T m (upP pm c v) k) s M → gA M 28 0 = nI m → ∃ M', yvL n0 k27 w (nI c) x2 x3 x4 x5 (nI (hrs T.hF T.gF c m v 0)) (nI k) 1 (nI (k + 1)) M = fX12_evening_132 n0 k27 (nI c) x2 x3 x4 x5 (nI (stay (hrs T.hF T.gF c m v) k (min 60 (9999 - m) - k))) M' ∧ YF (lP 1) M M'
  | 0, k, M, hk, hw, _, _, _ => by omega
  | w + 1, k, M, hk, hw, hY, hL, h28 => by
    show ∃ M', bX12_evening_72 n0 k27 (yvL n0 k27 w) (nI c) x2 x3 x4 x5 (nI (hrs T.hF T.gF c m v 0)) (nI k) 1 (nI (k + 1)) M = _ ∧ _
    unfold bX12_evening_72
    by_cases z : k = min 60 (9999 - m)
    · rw [← z, Nat.sub_self]
      exact ⟨M, eq_b (yahF (lo := 1) (hi := 60) h28 hm (by decide) (by decide) (by omega) (by omega)) (eq_t rfl rfl), YF.r⟩
    · have a1 := yahT (n0 := n0) (lo := 1) (hi := 60) (k := k + 1) h28 (by omega) (by omega) (by decide) (by omega)
      obtain ⟨M1, g1, g2, g3⟩ := ytickD (v := 1) hn hY (by decide) hL (trP_ok hO k) hs (by omega)
      obtain ⟨l1, M2, e1, e2⟩ := yhr (hY.yf g3 lP28) (v := 1) (by decide) g2.1 (trP_ok hO (k + 1)) (by omega) hc
      have ev : T.hF c (trP T m (upP pm c v) (k + 1) c).1 (trP T m (upP pm c v) (k + 1) c).2 (m + k + 1) = hrs T.hF T.gF c m v (k + 1) := by rw [pmu]; rfl
      rw [show (nxP T (m + k) (trP T m (upP pm c v) k)) = trP T m (upP pm c v) (k + 1) from rfl, ev] at e1
      have f2 : YF (lP 1) M M2 := g3.tr e2.y
      have h5 := hY.2.1.2.1
      have hl := hs.l
      have L2 : LyD 1 T.nc (m + (k + 1)) (trP T m (upP pm c v) (k + 1)) s M2 := LyD.fr (P := fun _ _ => False) g2 e2.y h5 (by omega) (fun _ _ z => z.elim)
      have b1 := hf (k + 1) (by omega)
      have b0 := hf 0 (by omega)
      have k1 : nI (k + 1) + 1 = nI (k + 1 + 1) := nI_add (k + 1) 1
      rw [show min 60 (9999 - m) - k = (min 60 (9999 - m) - (k + 1)) + 1 by omega]
      show ∃ M', _ = fX12_evening_132 n0 k27 (nI c) x2 x3 x4 x5 (nI (if hrs T.hF T.gF c m v (k + 1) = hrs T.hF T.gF c m v 0 then stay (hrs T.hF T.gF c m v) (k + 1) (min 60 (9999 - m) - (k + 1)) else k)) M' ∧ _
      by_cases y : hrs T.hF T.gF c m v (k + 1) = hrs T.hF T.gF c m v 0
      · rw [if_pos y]
        obtain ⟨M', r1, r2⟩ := ysty (k27 := k27) (x2 := x2) (x3 := x3) (x4 := x4) (x5 := x5) hn hc hO hs hm hf w (k + 1) M2 (by omega) (by omega) (hY.yf f2 lP28) L2 (m28f h28 f2 n28)
        refine ⟨M', eq_b a1 (eq_f (show ¬ (1 : Int32) = 0 by decide) (eq_f (by decide) (eq_b g1 (eq_b e1 (eq_t (congrArg nI y) ?_))))), f2.tr r2⟩
        unfold fX12_evening_110 fX12_evening_124
        rw [k1]
        exact eq_f (by decide) r1
      · rw [if_neg y]
        refine ⟨M2, eq_b a1 (eq_f (show ¬ (1 : Int32) = 0 by decide) (eq_f (by decide) (eq_b g1 (eq_b e1 (eq_f (fun u => y ((nI_eq (by omega) (by omega)).mp u)) ?_))))), f2⟩
        unfold fX12_evening_110 fX12_evening_124
        rw [k1]
        refine eq_t rfl ?_
        obtain ⟨w', rfl⟩ : ∃ w', w = w' + 1 := ⟨w - 1, by omega⟩
        show bX12_evening_72 n0 k27 (yvL n0 k27 w') (nI c) x2 x3 x4 x5 (nI (hrs T.hF T.gF c m v 0)) (nI k) 0 (nI (k + 1 + 1)) M2 = _
        unfold bX12_evening_72
        by_cases u : k + 1 + 1 ≤ 60 ∧ m + (k + 1 + 1) ≤ 9999
        · exact eq_b (yahT (lo := 1) (hi := 60) (m28f h28 f2 n28) (by omega) u.1 (by decide) u.2) (eq_f (show ¬ (1 : Int32) = 0 by decide) (eq_t rfl rfl))
        · exact eq_b (yahF (lo := 1) (hi := 60) (m28f h28 f2 n28) hm (by decide) (by decide) (by omega) u) (eq_t rfl rfl)
/-- a thing put into a palm of the layer that is tried -/
theorem yput1 {n0 nc m c : Nat} {t : Int32} {pm : Nat → Int32 × Nat} {s : Nat × List (Nat × Nat)} {M : Mem} (hL : LyD 1 nc m pm s M) (h5 : nc ≤ 5) (hc : c < nc) : ∃ M', fX12_puts n0 1 (nI c) t M = some M' ∧ LyD 1 nc m (upP pm c (t, 0)) s M' ∧ YF (lP 1) M M' := by
  refine ⟨_, yputs (v := 1) (by decide) (by omega), ⟨⟨by rw [gA_sA_ne (by decide), gA_sA_ne (by decide)]; exact hL.1.1, fun j hj => ?_⟩, by rw [gA_sA_ne (by decide), gA_sA_ne (by decide)]; exact hL.2.1, by rw [gA_sA_ne (by decide), gA_sA_ne (by decide)]; exact hL.2.2.1, fun i p hp => by rw [gA_sA_ne (by decide), gA_sA_ne (by decide)]; exact hL.2.2.2 i p hp⟩, (YF.r.a (by unfold lP tP; omega)).a (by unfold lP tP; omega)⟩
  rw [gA_sA_ne (by decide), gA_sA, if_pos rfl, gA_sA, if_pos rfl, gA_sA_ne (by decide)]
  unfold upP
  by_cases g : j = c
  · rw [if_pos (show 5 * 1 + j = 5 * 1 + c by omega), if_pos g, if_pos (show 5 * 1 + j = 5 * 1 + c by omega)]; exact ⟨rfl, rfl⟩
  · rw [if_neg (show ¬ 5 * 1 + j = 5 * 1 + c by omega), if_neg g, if_neg (show ¬ 5 * 1 + j = 5 * 1 + c by omega)]; exact hL.1.2 j hj
theorem upP_ok {nt nc c : Nat} {pm : Nat → Int32 × Nat} {v : Int32 × Nat} (h : PsO nt nc pm) (hv : pOk nt v) : PsO nt nc (upP pm c v) := fun j hj => by
  unfold upP
  by_cases g : j = c
  · rw [if_pos g]; exact hv
  · rw [if_neg g]; exact h j hj
theorem upP_at {c : Nat} {pm : Nat → Int32 × Nat} {v : Int32 × Nat} : upP pm c v c = v := if_pos rfl
abbrev xeL (n0 : Nat) : Nat → Int32 → Int32 → Int32 → Int32 → Int32 → Mem → Option (Int32 × Mem) := loopN (bX11_evening_40 n0) (fun _ _ _ _ _ _ => none)
abbrev yeL (n0 : Nat) : Nat → Int32 → Int32 → Int32 → Int32 → Int32 → Mem → Option (Int32 × Mem) := loopN (bX12_evening_27 n0) (fun _ _ _ _ _ _ => none)
theorem evnL {n0 q b : Nat} {T : TP} {nr C m c : Nat} {pm : Nat → Int32 × Nat} {s : Nat × List (Nat × Nat)} {x2 : Int32} (hn : 1700 ≤ n0) (hc : c < T.nc) : ∀ w t (bX bY mo : Int32) (MX MY : Mem), t ≤ T.nt → T.nt < w + t → RR n0 q b T nr C m pm s MX MY → ((t = 0 ∧ mo = -1) ∨ (0 < t ∧ bX = bY ∧ ∃ k, k ≤ 60 ∧ mo = nI k)) → 0 < T.nt → ∃ r MX' MY', xeL n0 w (nI c) x2 bX mo (nI t) MX = some (r, MX') ∧ yeL n0 w (nI c) x2 bY mo (nI t) MY = some (r, MY') ∧ R n0 MX' MY'
  | 0, t, _, _, _, _, _, ht, hw, _, _, _ => by omega
  | w + 1, t, bX, bY, mo, MX, MY, ht, hw, h, hi, h0 => by
    show ∃ r MX' MY', bX11_evening_40 n0 (xeL n0 w) (nI c) x2 bX mo (nI t) MX = _ ∧ bX12_evening_27 n0 (yeL n0 w) (nI c) x2 bY mo (nI t) MY = _ ∧ _
    obtain ⟨h1, h2, h3, h4, _⟩ := id h
    obtain ⟨o1, o2, o3, _⟩ := h1.2.2.2.1.2.1
    have hb := h1.2.2.2.2.1.2.2.1
    have hm := h2.1
    have hl := h2.2.2.l
    have h13 := h1.2.2.2.2.1.2.2.2.1
    have xq : gI MX (128 * gR MX 1 + 1) = nI T.nt := by rw [h1.2.1]; exact h1.2.2.2.1.1.2.2.1
    have yq : gA MY 2 (gI MY 13).toNatClampNeg = nI T.nt := by rw [h13, nI_clamp (by omega)]; exact h1.2.2.2.2.1.2.2.2.2.1
    have o13 : ¬ oob (gI MY 13) 2 := by rw [h13]; exact nI_in (by omega) (by decide)
    unfold bX11_evening_40 bX12_evening_27
    by_cases g : t = T.nt
    · rcases hi with ⟨z, _⟩ | ⟨_, rfl, _⟩
      · omega
      · subst g
        by_cases z : x2 = 0
        · exact ⟨bX, MX, MY, eq_t (by rw [xq]; exact Int32.le_refl _) (eq_t z rfl), eq_f o13 (eq_t (by rw [yq]; exact Int32.le_refl _) (eq_t z rfl)), q, b, T, nr, C, m, pm, s, h⟩
        · exact ⟨mo, MX, MY, eq_t (by rw [xq]; exact Int32.le_refl _) (eq_f z rfl), eq_f o13 (eq_t (by rw [yq]; exact Int32.le_refl _) (eq_f z rfl)), q, b, T, nr, C, m, pm, s, h⟩
    · have tO : tOk T.nt (nI t) := Or.inr ⟨t, by omega, rfl⟩
      have vO : pOk T.nt (nI t, 0) := ⟨tO, Nat.zero_le _⟩
      have hf : ∀ j, j ≤ min 60 (9999 - m) → hrs T.hF T.gF c m (nI t, 0) j ≤ 23 := fun j hj => hrs_le h1.2.2.2.2.1 hc vO (by omega)
      obtain ⟨X1, a1, a2⟩ := xcs (n0 := n0) hn h1.2.2.2.1 h3 hc tO hm hf
      obtain ⟨Y1, b1, b2, b3⟩ := ycopyD (n0 := n0) (v := 1) (u := 0) hn (by decide) (by decide) (by decide) o2 (by omega) h4
      obtain ⟨Y2, c1, c2, c3⟩ := yput1 (n0 := n0) (t := nI t) b2 o2 hc
      have f2 := b3.tr c3
      have YT2 := h1.2.2.2.2.1.yf f2 lP28
      have PO := upP_ok (c := c) h2.2.1 vO
      obtain ⟨_, Y3, d1, d2⟩ := yhr YT2 (v := 1) (by decide) c2.1 PO (by omega) hc
      rw [upP_at] at d1
      have f3 : YF (lP 1) MY Y3 := f2.tr d2.y
      have L3 : LyD 1 T.nc (m + 0) (trP T m (upP pm c (nI t, 0)) 0) s Y3 := LyD.fr (P := fun _ _ => False) c2 d2.y o2 (by omega) (fun _ _ z => z.elim)
      obtain ⟨Y4, e1, e2⟩ := ysty (n0 := n0) (k27 := yeL n0 w) (x2 := x2) (x3 := bY) (x4 := mo) (x5 := nI t) hn hc PO h2.2.2 hm hf n0 0 Y3 (by omega) (by omega) (h1.2.2.2.2.1.yf f3 lP28) L3 (m28f h4.1.1 f3 n28)
      rw [Nat.sub_zero] at e1
      have sl := stay_le (hrs T.hF T.gF c m (nI t, 0)) (min 60 (9999 - m)) 0
      have RR2 := h.scr (a2.wk (fun a z => by unfold scA; omega)) (lsc (f3.tr e2))
      have t1 : nI t + 1 = nI (t + 1) := nI_add t 1
      have xst : ∀ r, (if nI (stay (hrs T.hF T.gF c m (nI t, 0)) 0 (min 60 (9999 - m))) ≤ mo then fX11_evening_75 n0 (xeL n0 w) (nI c) x2 bX mo (nI t) X1 else fX11_evening_75 n0 (xeL n0 w) (nI c) x2 (nI t) (nI (stay (hrs T.hF T.gF c m (nI t, 0)) 0 (min 60 (9999 - m)))) (nI t) X1) = r → bX11_evening_40 n0 (xeL n0 w) (nI c) x2 bX mo (nI t) MX = r := fun r hr => by
        unfold bX11_evening_40
        exact eq_f (by rw [xq]; exact nI_ge (by omega) (by omega)) (eq_b a1 hr)
      have yst : ∀ r, fX12_evening_132 n0 (yeL n0 w) (nI c) x2 bY mo (nI t) (nI (stay (hrs T.hF T.gF c m (nI t, 0)) 0 (min 60 (9999 - m)))) Y4 = r → bX12_evening_27 n0 (yeL n0 w) (nI c) x2 bY mo (nI t) MY = r := fun r hr => by
        unfold bX12_evening_27
        refine eq_f o13 (eq_f (by rw [yq]; exact nI_ge (by omega) (by omega)) (eq_b b1 (eq_b c1 (eq_b d1 (Eq.trans e1 hr)))))
      have fin : ∀ bX' bY' mo', (0 < t + 1 ∧ bX' = bY' ∧ ∃ k, k ≤ 60 ∧ mo' = nI k) → fX11_evening_75 n0 (xeL n0 w) (nI c) x2 bX' mo' (nI t) X1 = xeL n0 w (nI c) x2 bX' mo' (nI (t + 1)) X1 ∧ fX12_evening_149 n0 (yeL n0 w) (nI c) x2 bY' mo' (nI t) Y4 = yeL n0 w (nI c) x2 bY' mo' (nI (t + 1)) Y4 ∧ ∃ r MX' MY', xeL n0 w (nI c) x2 bX' mo' (nI (t + 1)) X1 = some (r, MX') ∧ yeL n0 w (nI c) x2 bY' mo' (nI (t + 1)) Y4 = some (r, MY') ∧ R n0 MX' MY' := fun bX' bY' mo' hi' => by
        refine ⟨by unfold fX11_evening_75; rw [t1], by unfold fX12_evening_149; rw [t1], ?_⟩
        exact evnL hn hc w (t + 1) bX' bY' mo' X1 Y4 (by omega) (by omega) RR2 (Or.inr hi') h0
      by_cases u : mo < nI (stay (hrs T.hF T.gF c m (nI t, 0)) 0 (min 60 (9999 - m)))
      · obtain ⟨p1, p2, r, MX', MY', p3, p4, p5⟩ := fin (nI t) (nI t) (nI (stay (hrs T.hF T.gF c m (nI t, 0)) 0 (min 60 (9999 - m)))) ⟨by omega, rfl, _, by omega, rfl⟩
        refine ⟨r, MX', MY', xst _ (eq_f (Int32.not_le.mpr u) (p1.trans p3)), yst _ ?_, p5⟩
        unfold fX12_evening_132
        exact eq_t u (p2.trans p4)
      · rcases hi with ⟨_, z⟩ | hi
        · exact absurd (by rw [z, i_lt, nI_toInt (by omega), show (-1 : Int32).toInt = -1 from rfl]; omega) u
        · obtain ⟨p1, p2, r, MX', MY', p3, p4, p5⟩ := fin bX bY mo ⟨by omega, hi.2⟩
          refine ⟨r, MX', MY', xst _ (eq_t (Int32.not_lt.mp u) (p1.trans p3)), yst _ ?_, p5⟩
          unfold fX12_evening_132
          exact eq_f u (p2.trans p4)
theorem cEvening {n0 : Nat} {x y : Int32} {MX MY : Mem} (hn : 1700 ≤ n0) (h : R n0 MX MY) : Cal n0 (fX11_evening n0 x y MX) (fX12_evening n0 x y MY) := by
  have h0 := h
  obtain ⟨q, b, T, nr, C, m, pm, s, h⟩ := h
  obtain ⟨h1, h2, h3, h4, _⟩ := id h
  obtain ⟨o1, o2, o3, _⟩ := h1.2.2.2.1.2.1
  have xq : gI MX (128 * gR MX 1 + 1) = nI T.nt := by rw [h1.2.1]; exact h1.2.2.2.1.1.2.2.1
  unfold fX11_evening fX12_evening
  rcases isCo h1 x with ⟨c, hc, rfl, e1, e2⟩ | ⟨z, e1, e2⟩
  · rcases yisc (n0 := n0) 2 (x := y) (hi := 1) (by decide) (by decide) with ⟨k, hk, rfl, e⟩ | ⟨z, e⟩
    · by_cases g : T.nt = 0
      · refine Cal.same (r := -1) h0 (eq_b e1 (eq_f (show ¬ (1 : Int32) = 0 by decide) (eq_t (show gI MX (128 * gR MX 1 + 1) = 0 by rw [xq, g]; rfl) rfl))) (eq_b e2 (eq_f (show ¬ (1 : Int32) = 0 by decide) (eq_b (e MY) (eq_f (show ¬ (1 : Int32) = 0 by decide) ?_))))
        have hb := h1.2.2.2.2.1.2.2.1
        have h13 := h1.2.2.2.2.1.2.2.2.1
        have yq : gA MY 2 (gI MY 13).toNatClampNeg = nI T.nt := by rw [h13, nI_clamp (by omega)]; exact h1.2.2.2.2.1.2.2.2.2.1
        have o13 : ¬ oob (gI MY 13) 2 := by rw [h13]; exact nI_in (by omega) (by decide)
        obtain ⟨w, rfl⟩ : ∃ w, n0 = w + 1 := ⟨n0 - 1, by omega⟩
        show bX12_evening_27 (w + 1) (yeL (w + 1) w) (nI c) (nI k) (-1) (-1) 0 MY = _
        unfold bX12_evening_27
        refine eq_f o13 (eq_t (by rw [yq, g]; decide) ?_)
        by_cases z : nI k = 0
        · exact eq_t z rfl
        · exact eq_f z rfl
      · obtain ⟨r, MX', MY', p3, p4, p5⟩ := evnL (n0 := n0) (x2 := nI k) hn hc n0 0 0 (-1) (-1) MX MY (by omega) (by omega) h (Or.inl ⟨rfl, rfl⟩) (by omega)
        exact ⟨r, MX', MY', eq_b e1 (eq_f (show ¬ (1 : Int32) = 0 by decide) (eq_f (show ¬ gI MX (128 * gR MX 1 + 1) = 0 by rw [xq]; exact nI_ne0 (by omega) (by omega)) (eq_f (nI_nn (by omega)) (eq_t (nI_le (b := 1) (by omega) (by decide)) p3)))), eq_b e2 (eq_f (show ¬ (1 : Int32) = 0 by decide) (eq_b (e MY) (eq_f (show ¬ (1 : Int32) = 0 by decide) p4))), p5⟩
    · refine Cal.same (r := -1) h0 (eq_b e1 (eq_f (show ¬ (1 : Int32) = 0 by decide) ?_)) (eq_b e2 (eq_f (show ¬ (1 : Int32) = 0 by decide) (eq_b (e MY) (eq_t rfl rfl))))
      by_cases g : gI MX (128 * gR MX 1 + 1) = 0
      · exact eq_t g rfl
      · by_cases g2 : y < 0
        · exact eq_f g (eq_t g2 rfl)
        · refine eq_f g (eq_f g2 (eq_f (fun u => ?_) rfl))
          have z2 := z.resolve_left g2
          rw [i_le] at z2 u
          have a1 : (nI 2).toInt = 2 := rfl
          have a2 : (1 : Int32).toInt = 1 := rfl
          omega
  · exact Cal.same (r := -1) h0 (eq_b e1 (eq_t rfl rfl)) (eq_b e2 (eq_t rfl rfl))
