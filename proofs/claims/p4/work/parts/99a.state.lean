/-! THE STATE OF THE CLASS: a minute, what is due -/
def KpX (K : List (Nat × Nat)) (M : Mem) : Prop := gI M 1285 = nI K.length ∧ ∀ i p, K[i]? = some p → gA M 14 i = nI p.1 ∧ gA M 15 i = nI p.2
/-- minute, palms, bits, kept -/
def PlX (nc : Nat) (pm : Nat → Int32 × Nat) (M : Mem) : Prop := ∀ c, c < nc → gA M 11 c = (pm c).1 ∧ gA M 12 c = nI (pm c).2
def DnX (nd D : Nat) (M : Mem) : Prop := ∀ d, d < nd → gA M 13 d = nI (D / 2 ^ d % 2)
def SX (q nc nd m : Nat) (pm : Nat → Int32 × Nat) (s : Nat × List (Nat × Nat)) (M : Mem) : Prop := gR M 896 = q ∧ gR M 1280 = q ∧ gI M 1281 = nI m ∧ PlX nc pm M ∧ DnX nd s.1 M ∧ KpX s.2 M
/-- what the class may change beside ints I and arrays A -/
def XG (I A : Nat → Prop) (M M' : Mem) : Prop := gR M' = gR M ∧ gL M' = gL M ∧ gB M' = gB M ∧ (∀ a, ¬ (a = 8 ∨ a = 9 ∨ A a) → gA M' a = gA M a) ∧ ∀ k, ¬ ((897 ≤ k ∧ k ≤ 900) ∨ k = 903 ∨ I k) → gI M' k = gI M k
theorem XG.r {I A : Nat → Prop} {M : Mem} : XG I A M M := ⟨rfl, rfl, rfl, fun _ _ => rfl, fun _ _ => rfl⟩
theorem XG.tr {I A : Nat → Prop} {M M' M2 : Mem} (h : XG I A M M') (g : XG I A M' M2) : XG I A M M2 := ⟨g.1.trans h.1, g.2.1.trans h.2.1, g.2.2.1.trans h.2.2.1, fun a z => (g.2.2.2.1 a z).trans (h.2.2.2.1 a z), fun a z => (g.2.2.2.2 a z).trans (h.2.2.2.2 a z)⟩
theorem XG.wk {I I' A A' : Nat → Prop} {M M' : Mem} (h : XG I A M M') (h1 : ∀ k, I k → I' k) (h2 : ∀ a, A a → A' a) : XG I' A' M M' := ⟨h.1, h.2.1, h.2.2.1, fun a z => h.2.2.2.1 a (fun e => z (by rcases e with e | e | e; exact Or.inl e; exact Or.inr (Or.inl e); exact Or.inr (Or.inr (h2 a e)))), fun a z => h.2.2.2.2 a (fun e => z (by rcases e with e | e | e; exact Or.inl e; exact Or.inr (Or.inl e); exact Or.inr (Or.inr (h1 a e))))⟩
theorem XF.g {I A : Nat → Prop} {M M' : Mem} (h : XF A M M') : XG I A M M' := ⟨h.1, h.2.1, h.2.2.1, h.2.2.2.1, fun k z => h.2.2.2.2 k (fun e => z (by omega))⟩
theorem XG.i {I A : Nat → Prop} {M M' : Mem} {k : Nat} {v : Int32} (h : XG I A M M') (hk : I k) : XG I A M (sI M' k v) := ⟨h.1, h.2.1, h.2.2.1, h.2.2.2.1, fun j z => by rw [gI_ne (fun e => z (by rw [e]; exact Or.inr (Or.inr hk)))]; exact h.2.2.2.2 j z⟩
theorem XG.a {I A : Nat → Prop} {M M' : Mem} {a i : Nat} {v : Int32} (h : XG I A M M') (hk : A a) : XG I A M (sA M' a i v) := ⟨h.1, h.2.1, h.2.2.1, fun j z => by rw [gA_sA_ne (fun e => z (by rw [e]; exact Or.inr (Or.inr hk)))]; exact h.2.2.2.1 j z, h.2.2.2.2⟩
theorem XG.tw {I A : Nat → Prop} {M M' : Mem} {q : Nat} (h : XG I A M M') (hq : q = 31 ∨ q = 47) (hI : ∀ k, I k → k < 3968) (hA : ∀ a, A a → a < 31 ∨ 63 ≤ a) : xTw q M M' := ⟨fun j _ _ => h.2.2.2.2 j (fun e => by
  rcases e with e | e | e
  · omega
  · omega
  · have := hI j e; omega), fun a h1 h2 => h.2.2.2.1 a (fun e => by
  rcases e with e | e | e
  · omega
  · omega
  · have := hA a e; omega)⟩
def stI (k : Nat) : Prop := k = 1281 ∨ k = 1285
def stA (a : Nat) : Prop := 11 ≤ a ∧ a ≤ 15
theorem XT.st {n0 q : Nat} {T : TP} {M M' : Mem} (h : XT n0 q T M) (t : XG stI stA M M') : XT n0 q T M' := h.tw (t.tw h.1.1 (fun k z => by unfold stI at z; omega) (fun a z => by unfold stA at z; omega))
theorem SX.fr {q nc nd m : Nat} {pm : Nat → Int32 × Nat} {s : Nat × List (Nat × Nat)} {A : Nat → Prop} {M M' : Mem} (h : SX q nc nd m pm s M) (f : XF A M M') (hA : ∀ a, A a → ¬ stA a) : SX q nc nd m pm s M' := by
  have g : ∀ a, 11 ≤ a → a ≤ 15 → gA M' a = gA M a := fun a h1 h2 => f.2.2.2.1 a (fun e => by
    rcases e with e | e | e
    · omega
    · omega
    · exact hA a e ⟨h1, h2⟩)
  refine ⟨by rw [f.1]; exact h.1, by rw [f.1]; exact h.2.1, (f.2.2.2.2 1281 (by decide)).trans h.2.2.1, fun c hc => ?_, fun d hd => ?_, (f.2.2.2.2 1285 (by decide)).trans h.2.2.2.2.2.1, fun i p hp => ?_⟩
  · rw [g 11 (by decide) (by decide), g 12 (by decide) (by decide)]; exact h.2.2.2.1 c hc
  · rw [g 13 (by decide) (by decide)]; exact h.2.2.2.2.1 d hd
  · rw [g 14 (by decide) (by decide), g 15 (by decide) (by decide)]; exact h.2.2.2.2.2.2 i p hp
theorem xdue {n0 q m d : Nat} {T : TP} {pm : Nat → Int32 × Nat} {s : Nat × List (Nat × Nat)} {M : Mem} (hT : XT n0 q T M) (hS : SX q T.nc T.nd m pm s M) (hO : PsO T.nt T.nc pm) (hm : m ≤ 20000) (hd : d < T.nd) : ∃ M', fX6_isDue n0 (nI d) M = some (bI (due T pm m d = true), M') ∧ XF noN M M' := by
  obtain ⟨t1, ok, t3, t4, t5⟩ := hT
  obtain ⟨s0, s1, s2, s3, s4, s5⟩ := hS
  have h6 := ok.2.2.1
  have h5 := ok.2.1
  obtain ⟨d1, d2⟩ := ok.2.2.2 d hd
  have cd : (nI d).toNatClampNeg = d := nI_clamp (by omega)
  have cc : (nI (T.dc d)).toNatClampNeg = T.dc d := nI_clamp (by omega)
  have od : ¬ oob (nI d) 6 := nI_in (by omega) (by decide)
  have oc : ¬ oob (nI (T.dc d)) 5 := nI_in (by omega) (by decide)
  have p1 : PmX q (T.dc d) (pm (T.dc d)).1 (pm (T.dc d)).2 m (hld M (nI (T.dc d)) (pm (T.dc d)).1 (nI (pm (T.dc d)).2) (nI m)) := hld_p s0
  have f1 : XF noN M (hld M (nI (T.dc d)) (pm (T.dc d)).1 (nI (pm (T.dc d)).2) (nI m)) := hld_f
  have ok1 := hO _ d1
  obtain ⟨hh, M2, e1, e2, e3⟩ := xhr (t1.xf f1 (fun _ z => z.elim)) p1 ⟨by omega, ok1.1, ok1.2, hm⟩
  have f2 := f1.tr e3
  have q11 : gA M2 (gR M2 1280 + 11) d = nI (T.dh d) := by
    rw [f2.1, s1, f2.2.2.2.1 _ (fun z => by rcases z with z | z | z; rcases t1.1 with g | g <;> omega; rcases t1.1 with g | g <;> omega; exact z)]
    exact (t5 d hd).2
  unfold fX6_isDue
  refine ⟨M2, ?_, f2⟩
  refine eq_f od (eq_e (v' := nI (T.dc d)) (by rw [cd, s1]; exact (t5 d hd).1) (eq_f oc (eq_f oc (eq_b (z := hld M (nI (T.dc d)) (pm (T.dc d)).1 (nI (pm (T.dc d)).2) (nI m)) ?_ (eq_b e1 (eq_f od ?_))))))
  · rw [cc, (s3 _ d1).1, (s3 _ d1).2, s2]
    exact xhold
  · by_cases g : T.hF (T.dc d) (pm (T.dc d)).1 (pm (T.dc d)).2 m = T.dh d
    · rw [bI_t (by unfold due; exact decide_eq_true g)]
      exact eq_t (by rw [cd, q11]; exact congrArg nI g) rfl
    · rw [bI_f (by unfold due; exact fun z => g (of_decide_eq_true z))]
      exact eq_f (by rw [cd, q11]; exact fun z => g ((nI_eq (by omega) (by omega)).mp z)) rfl
theorem xkeep {n0 m d : Nat} {K : List (Nat × Nat)} {M : Mem} (hK : KpX K M) (hl : K.length < 6) (h28 : gI M 1281 = nI m) : ∃ M', fX6_keep n0 (nI d) M = some M' ∧ KpX (K ++ [(m, d)]) M' ∧ gA M' 13 = gA M 13 ∧ gA M' 11 = gA M 11 ∧ gA M' 12 = gA M 12 ∧ gI M' 1281 = gI M 1281 ∧ XG stI stA M M' := by
  have ck : (nI K.length).toNatClampNeg = K.length := nI_clamp (by omega)
  have ok : ¬ oob (nI K.length) 6 := nI_in hl (by decide)
  have k1 : nI K.length + 1 = nI (K.length + 1) := nI_add _ 1
  refine ⟨sI (sA (sA M 14 K.length (nI m)) 15 K.length (nI d)) 1285 (nI (K.length + 1)), ?_, ⟨?_, fun i p h => ?_⟩, rfl, rfl, rfl, rfl, ?_⟩
  · unfold fX6_keep
    refine eq_f (by rw [hK.1]; exact nI_ge hl (by decide)) ?_
    simp only [bnd, gI_sA, hK.1, ck, h28, k1]
    exact eq_f ok (eq_f ok rfl)
  · rw [gI_at, List.length_append]
    rfl
  · show gA (sA (sA M 14 K.length (nI m)) 15 K.length (nI d)) 14 i = _ ∧ gA (sA (sA M 14 K.length (nI m)) 15 K.length (nI d)) 15 i = _
    rw [gA_sA_ne (by decide), gA_sA, if_pos rfl, gA_sA, if_pos rfl, gA_sA_ne (by decide)]
    rcases ap_at h with ⟨g, h⟩ | ⟨rfl, rfl⟩
    · rw [if_neg (by omega), if_neg (by omega)]
      exact hK.2 i p h
    · rw [if_pos rfl, if_pos rfl]
      exact ⟨rfl, rfl⟩
  · exact ((XG.r.a (by unfold stA; omega)).a (by unfold stA; omega)).i (by unfold stI; omega)
abbrev xdL (n0 : Nat) : Nat → Int32 → Int32 → Mem → Option (Int32 × Mem) := loopN (bX6_doWhatIsDue_4 n0) (fun _ _ _ => none)
theorem xfd {n0 q m : Nat} {T : TP} {pm : Nat → Int32 × Nat} {s : Nat × List (Nat × Nat)} (hO : PsO T.nt T.nc pm) (hm : m ≤ 20000) (hs : sOk T.nd s) :
    ∀ w d M, d ≤ T.nd → T.nd < w + d → XT n0 q T M → SX q T.nc T.nd m pm (fnS (due T pm m) m s d) M →
    ∃ M', xdL n0 w (nI ((fnS (due T pm m) m s d).2.length - s.2.length)) (nI d) M = some (nI ((fnS (due T pm m) m s T.nd).2.length - s.2.length), M') ∧ SX q T.nc T.nd m pm (fnS (due T pm m) m s T.nd) M' ∧ XG stI stA M M'
  | 0, d, M, hd, hw, _, _ => by omega
  | w + 1, d, M, hd, hw, hT, hS => by
    show ∃ M', bX6_doWhatIsDue_4 n0 (xdL n0 w) _ (nI d) M = _ ∧ _
    have hok := hT.2.1
    have h6 := hok.2.2.1
    have h5 := hok.2.1
    have q12 : gI M (128 * gR M 1280 + 12) = nI T.nd := by rw [hS.2.1]; exact hT.2.2.2.1
    have sok := fnS_ok (du := due T pm m) (m := m) h6 hs d (by omega)
    have s64 : (fnS (due T pm m) m s d).1 < 64 := Nat.lt_of_lt_of_le sok.1 (p64 h6)
    have slen := sok.2
    have s0 := fnS_len (du := due T pm m) (m := m) (s := s) d
    by_cases g : d = T.nd
    · subst g
      refine ⟨M, ?_, hS, XG.r⟩
      unfold bX6_doWhatIsDue_4
      exact eq_t (by rw [q12]; exact Int32.le_refl _) rfl
    · have hdn : d < T.nd := by omega
      have cd : (nI d).toNatClampNeg = d := nI_clamp (by omega)
      have od : ¬ oob (nI d) 6 := nI_in (by omega) (by decide)
      have d1 : nI d + 1 = nI (d + 1) := nI_add d 1
      have a13 := hS.2.2.2.2.1 d hdn
      have st : ¬ gI M (128 * gR M 1280 + 12) ≤ nI d := by rw [q12]; exact nI_ge hdn (by omega)
      have dn : fnS (due T pm m) m s (d + 1) = if (fnS (due T pm m) m s d).1 / 2 ^ d % 2 = 0 ∧ due T pm m d = true then ((fnS (due T pm m) m s d).1 + 2 ^ d, (fnS (due T pm m) m s d).2 ++ [(m, d)]) else fnS (due T pm m) m s d := rfl
      by_cases g0 : (fnS (due T pm m) m s d).1 / 2 ^ d % 2 = 0
      · obtain ⟨M1, e1, e2⟩ := xdue hT hS hO hm hdn
        have S1 := hS.fr e2 (fun _ z => z.elim)
        have T1 := hT.xf e2 (fun _ z => z.elim)
        have z13 : gA M 13 (nI d).toNatClampNeg = 0 := by rw [cd, a13, g0]; rfl
        by_cases gd : due T pm m d = true
        · have eS : fnS (due T pm m) m s (d + 1) = ((fnS (due T pm m) m s d).1 + 2 ^ d, (fnS (due T pm m) m s d).2 ++ [(m, d)]) := by rw [dn, if_pos ⟨g0, gd⟩]
          have pcl := pc_le ((fnS (due T pm m) m s d).1 + 2 ^ d)
          have pc1 := bt_pc _ s64 d (by omega) g0
          obtain ⟨M3, u1, u2, u3, u4, u5, u6, u7⟩ := xkeep (n0 := n0) (m := m) (d := d) (K := (fnS (due T pm m) m s d).2) (M := sA M1 13 d 1) ⟨S1.2.2.2.2.2.1, fun i p z => by rw [gA_sA_ne (by decide), gA_sA_ne (by decide)]; exact S1.2.2.2.2.2.2 i p z⟩ (by omega) S1.2.2.1
          have f2 : XG stI stA M1 M3 := (XG.r.a (by unfold stA; omega)).tr u7
          have S3 : SX q T.nc T.nd m pm (fnS (due T pm m) m s (d + 1)) M3 := by
            rw [eS]
            refine ⟨by rw [f2.1]; exact S1.1, by rw [f2.1]; exact S1.2.1, u6.trans S1.2.2.1, fun c hc => ?_, fun e he => ?_, u2⟩
            · rw [u4, u5, gA_sA_ne (by decide), gA_sA_ne (by decide)]; exact S1.2.2.2.1 c hc
            · show gA M3 13 e = nI (((fnS (due T pm m) m s d).1 + 2 ^ d) / 2 ^ e % 2)
              rw [u3, gA_sA, if_pos rfl, bt_at _ s64 d (by omega) g0 e (by omega)]
              by_cases h : e = d
              · rw [if_pos h, if_pos h]; rfl
              · rw [if_neg h, if_neg h]; exact S1.2.2.2.2.1 e he
          obtain ⟨M', r1, r2, r3⟩ := xfd hO hm hs w (d + 1) M3 (by omega) (by omega) (T1.st f2) S3
          refine ⟨M', ?_, r2, e2.n.g.tr (f2.tr r3)⟩
          unfold bX6_doWhatIsDue_4
          refine eq_f st (eq_f od (eq_t z13 (eq_b e1 (eq_f (show ¬ bI (due T pm m d = true) = 0 by rw [bI_t gd]; decide) (eq_f od (eq_e (v' := sA M1 13 d 1) ?_ (eq_b u1 ?_)))))))
          · show sA M1 13 (nI d).toNatClampNeg 1 = _
            rw [cd]
          · unfold fX6_doWhatIsDue_48
            rw [d1, show nI ((fnS (due T pm m) m s d).2.length - s.2.length) + 1 = nI ((fnS (due T pm m) m s (d + 1)).2.length - s.2.length) by
              rw [show nI ((fnS (due T pm m) m s d).2.length - s.2.length) + 1 = nI ((fnS (due T pm m) m s d).2.length - s.2.length + 1) from nI_add _ 1, eS]
              congr 1
              show _ = ((fnS (due T pm m) m s d).2 ++ [(m, d)]).length - _
              rw [List.length_append]
              show _ = _ + 1 - _
              omega]
            exact r1
        · have eS : fnS (due T pm m) m s (d + 1) = fnS (due T pm m) m s d := by rw [dn, if_neg (fun z => gd z.2)]
          obtain ⟨M', r1, r2, r3⟩ := xfd hO hm hs w (d + 1) M1 (by omega) (by omega) T1 (by rw [eS]; exact S1)
          rw [eS] at r1
          refine ⟨M', ?_, r2, e2.n.g.tr r3⟩
          unfold bX6_doWhatIsDue_4
          refine eq_f st (eq_f od (eq_t z13 (eq_b e1 (eq_t (show bI (due T pm m d = true) = 0 from bI_f gd) ?_))))
          unfold fX6_doWhatIsDue_48
          rw [d1]
          exact r1
      · have eS : fnS (due T pm m) m s (d + 1) = fnS (due T pm m) m s d := by rw [dn, if_neg (fun z => g0 z.1)]
        obtain ⟨M', r1, r2, r3⟩ := xfd hO hm hs w (d + 1) M (by omega) (by omega) hT (by rw [eS]; exact hS)
        rw [eS] at r1
        refine ⟨M', ?_, r2, r3⟩
        unfold bX6_doWhatIsDue_4
        refine eq_f st (eq_f od (eq_f ?_ ?_))
        · rw [cd, a13, show (fnS (due T pm m) m s d).1 / 2 ^ d % 2 = 1 by omega]; decide
        · unfold fX6_doWhatIsDue_48
          rw [d1]
          exact r1
theorem xfin {n0 q m : Nat} {T : TP} {pm : Nat → Int32 × Nat} {s : Nat × List (Nat × Nat)} {M : Mem} (hn : 1700 ≤ n0) (hT : XT n0 q T M) (hS : SX q T.nc T.nd m pm s M) (hO : PsO T.nt T.nc pm) (hm : m ≤ 20000) (hs : sOk T.nd s) :
    ∃ M', fX6_doWhatIsDue n0 M = some (nI ((fnS (due T pm m) m s T.nd).2.length - s.2.length), M') ∧ SX q T.nc T.nd m pm (fnS (due T pm m) m s T.nd) M' ∧ XG stI stA M M' := by
  have h6 := hT.2.1.2.2.1
  obtain ⟨M', e1, e2⟩ := xfd hO hm hs n0 0 M (by omega) (by omega) hT hS
  rw [show (fnS (due T pm m) m s 0).2.length - s.2.length = 0 from Nat.sub_self _] at e1
  exact ⟨M', e1, e2⟩
abbrev xoL (n0 : Nat) : Nat → Int32 → Mem → Option Mem := loopN (bX6_goOn_2 n0) (fun _ _ => none)
theorem xgs {n0 q m : Nat} {T : TP} {pm : Nat → Int32 × Nat} {s : Nat × List (Nat × Nat)} (hO : PsO T.nt T.nc pm) (hm : m < 9999) :
    ∀ w c M, c ≤ T.nc → T.nc < w + c → XT n0 q T M → SX q T.nc T.nd m (pmAt T.gF (m + 1) pm c) s M →
    ∃ M', xoL n0 w (nI c) M = some M' ∧ SX q T.nc T.nd (m + 1) (nxP T m pm) s M' ∧ XG stI stA M M'
  | 0, c, M, hc, hw, _, _ => by omega
  | w + 1, c, M, hc, hw, hT, hS => by
    show ∃ M', bX6_goOn_2 n0 (xoL n0 w) (nI c) M = _ ∧ _
    have h5 := hT.2.1.2.1
    have q5 : gI M (128 * gR M 1280 + 5) = nI T.nc := by rw [hS.2.1]; exact hT.2.2.1
    by_cases g : c = T.nc
    · refine ⟨sI M 1281 (nI (m + 1)), ?_, ⟨hS.1, hS.2.1, gI_at, fun j hj => ?_, hS.2.2.2.2.1, hS.2.2.2.2.2⟩, XG.r.i (by unfold stI; omega)⟩
      · unfold bX6_goOn_2
        refine eq_t (by rw [q5, g]; exact Int32.le_refl _) ?_
        rw [hS.2.2.1, show nI m + 1 = nI (m + 1) from nI_add m 1, show (9999 : Int32) = nI 9999 from rfl, imin_nI (by omega) (by omega), Nat.min_eq_right (by omega)]
      · have := hS.2.2.2.1 j hj
        unfold pmAt at this
        rw [if_pos (by omega)] at this
        exact this
    · have hcn : c < T.nc := by omega
      have cc : (nI c).toNatClampNeg = c := nI_clamp (by omega)
      have oc : ¬ oob (nI c) 5 := nI_in (by omega) (by decide)
      have pcc : pmAt T.gF (m + 1) pm c c = pm c := if_neg (by omega)
      have pl := hS.2.2.2.1 c hcn
      rw [pcc] at pl
      have ok1 := hO c hcn
      have p1 : PmX q c (pm c).1 (pm c).2 m (hld M (nI c) (pm c).1 (nI (pm c).2) (nI m)) := hld_p hS.1
      have f1 : XF noN M (hld M (nI c) (pm c).1 (nI (pm c).2) (nI m)) := hld_f
      obtain ⟨M1, e1, e2, e3⟩ := xgo (hT.1.xf f1 (fun _ z => z.elim)) p1 ⟨by omega, ok1.1, ok1.2, by omega⟩ hm
      have f2 := f1.tr e3
      have S1 := hS.fr f2 (fun _ z => z.elim)
      have hM2 : ∃ M2, M2 = sA (sA M1 11 c (tk T.gF c (m + 1) (pm c)).1) 12 c (nI (tk T.gF c (m + 1) (pm c)).2) := ⟨_, rfl⟩
      obtain ⟨M2, eM⟩ := hM2
      have f3 : XG stI stA M1 M2 := by rw [eM]; exact (XG.r.a (by unfold stA; omega)).a (by unfold stA; omega)
      have S2 : SX q T.nc T.nd m (pmAt T.gF (m + 1) pm (c + 1)) s M2 := by
        refine ⟨by rw [f3.1]; exact S1.1, by rw [f3.1]; exact S1.2.1, by rw [eM]; exact S1.2.2.1, fun j hj => ?_, fun d hd => by rw [eM, gA_sA_ne (by decide), gA_sA_ne (by decide)]; exact S1.2.2.2.2.1 d hd, ⟨by rw [eM]; exact S1.2.2.2.2.2.1, fun i p z => by rw [eM, gA_sA_ne (by decide), gA_sA_ne (by decide), gA_sA_ne (by decide), gA_sA_ne (by decide)]; exact S1.2.2.2.2.2.2 i p z⟩⟩
        rw [eM, gA_sA_ne (by decide), gA_sA, if_pos rfl, gA_sA, if_pos rfl, gA_sA_ne (by decide)]
        unfold pmAt
        by_cases h : j = c
        · rw [if_pos h, if_pos h, if_pos (by omega), h]
          exact ⟨rfl, rfl⟩
        · rw [if_neg h, if_neg h]
          have := S1.2.2.2.1 j hj
          unfold pmAt at this
          by_cases h2 : j < c
          · rw [if_pos (by omega)]
            rw [if_pos h2] at this
            exact this
          · rw [if_neg (by omega)]
            rw [if_neg h2] at this
            exact this
      obtain ⟨M', r1, r2, r3⟩ := xgs hO hm w (c + 1) M2 (by omega) (by omega) ((hT.xf f2 (fun _ z => z.elim)).st f3) S2
      refine ⟨M', ?_, r2, f2.n.g.tr (f3.tr r3)⟩
      unfold bX6_goOn_2
      refine eq_f (by rw [q5]; exact nI_ge hcn (by omega)) (eq_f oc (eq_f oc (eq_b (z := hld M (nI c) (pm c).1 (nI (pm c).2) (nI m)) ?_ (eq_b e1 (eq_f oc (eq_n (eq_f oc (eq_e (v' := M2) ?_ ?_))))))))
      · rw [cc, pl.1, pl.2, hS.2.2.1]
        exact xhold
      · rw [eM, cc, e2.2.2.1]
        show sA (sA M1 11 c _) 12 c (gI M1 899) = _
        rw [e2.2.2.2.1]
      · rw [show nI c + 1 = nI (c + 1) from nI_add c 1]
        exact r1
theorem xgoS {n0 q m : Nat} {T : TP} {pm : Nat → Int32 × Nat} {s : Nat × List (Nat × Nat)} {M : Mem} (hn : 1700 ≤ n0) (hT : XT n0 q T M) (hS : SX q T.nc T.nd m pm s M) (hO : PsO T.nt T.nc pm) (hm : m < 9999) : ∃ M', fX6_goOn n0 M = some M' ∧ SX q T.nc T.nd (m + 1) (nxP T m pm) s M' ∧ XG stI stA M M' := by
  have h5 := hT.2.1.2.1
  refine xgs hO hm n0 0 M (by omega) (by omega) hT ?_
  have e : pmAt T.gF (m + 1) pm 0 = pm := by
    funext j
    unfold pmAt
    exact if_neg (by omega)
  rw [e]
  exact hS
