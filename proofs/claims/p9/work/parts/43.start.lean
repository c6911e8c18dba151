theorem bzw0 : (okW 141 (Cond.methodLink "PalmHoursLaw" 9 ⟨"PalmHours", "<init>", "()V"⟩) && (okW 142 (Cond.instanceMethod ⟨"PalmHours", "<init>", "()V"⟩) && (okW 1238 (Cond.methodLink "PalmHoursLaw" 12 ⟨"PalmHoursModel", "<init>", "()V"⟩) && (okW 1239 (Cond.instanceMethod ⟨"PalmHoursModel", "<init>", "()V"⟩) && (true))))) = true := by decide +kernel
theorem w141 : Cond.methodLink "PalmHoursLaw" 9 ⟨"PalmHours", "<init>", "()V"⟩ ∈ lw_g := okW_g (an1 bzw0)
theorem w142 : Cond.instanceMethod ⟨"PalmHours", "<init>", "()V"⟩ ∈ lw_g := okW_g (an1 (an2 bzw0))
theorem w1238 : Cond.methodLink "PalmHoursLaw" 12 ⟨"PalmHoursModel", "<init>", "()V"⟩ ∈ lw_g := okW_g (an1 (an2 (an2 bzw0)))
theorem w1239 : Cond.instanceMethod ⟨"PalmHoursModel", "<init>", "()V"⟩ ∈ lw_g := okW_g (an1 (an2 (an2 (an2 bzw0))))
theorem bzw1 : (wdC 143 ⟨"PalmHours", "<init>", "()V"⟩ cX11_init 1 none && (wdC 1240 ⟨"PalmHoursModel", "<init>", "()V"⟩ cX12_init 2 none && (true))) = true := by decide +kernel
theorem w143 : Cond.code ⟨"PalmHours", "<init>", "()V"⟩ cX11_init 1 none ∈ lw_g := wdC_g (an1 bzw1)
theorem w1240 : Cond.code ⟨"PalmHoursModel", "<init>", "()V"⟩ cX12_init 2 none ∈ lw_g := wdC_g (an1 (an2 bzw1))
theorem mdX11_init : MD yX11_init cX11_init 1 none 0 := ⟨w143, w120, by decide +kernel, by decide⟩
theorem mdX12_init : MD yX12_init cX12_init 2 none 0 := ⟨w1240, w137, by decide +kernel, by decide⟩
theorem bzw2 : (okW 140 (Cond.instantiable "PalmHours" 18) && (okW 1237 (Cond.instantiable "PalmHoursModel" 68) && (okW 139 (Cond.classLink "PalmHoursLaw" 7 "PalmHours") && (true)))) = true := by decide +kernel
theorem xw140 : Cond.instantiable "PalmHours" 18 ∈ lw_g := okW_g (an1 bzw2)
theorem xw1237 : Cond.instantiable "PalmHoursModel" 68 ∈ lw_g := okW_g (an1 (an2 bzw2))
theorem xw139 : Cond.classLink "PalmHoursLaw" 7 "PalmHours" ∈ lw_g := okW_g (an1 (an2 (an2 bzw2)))
theorem nlL_7 : NL RL 7 11 RX11 TX11 18 tyX11 := ⟨rfl, inX11, xw139, xw140, w120, tyX11_ok⟩
theorem bzw3 : (okW 1236 (Cond.classLink "PalmHoursLaw" 10 "PalmHoursModel") && (true)) = true := by decide +kernel
theorem xw1236 : Cond.classLink "PalmHoursLaw" 10 "PalmHoursModel" ∈ lw_g := okW_g (an1 bzw3)
theorem nlL_10 : NL RL 10 12 RX12 TX12 68 tyX12 := ⟨rfl, inX12, xw1236, xw1237, w137, tyX12_ok⟩
theorem fsX11 : ∀ j, j < 18 → defaultValue (tyX11 j) = vp_V [.null, .null, .null, .null, .null, .null, .null, .null, .null, .null, .null, .null, .null, .null, .int 0, .int 0, .int 0, .int 0] j := fun j hj => by rcases (show j = 0 ∨ j = 1 ∨ j = 2 ∨ j = 3 ∨ j = 4 ∨ j = 5 ∨ j = 6 ∨ j = 7 ∨ j = 8 ∨ j = 9 ∨ j = 10 ∨ j = 11 ∨ j = 12 ∨ j = 13 ∨ j = 14 ∨ j = 15 ∨ j = 16 ∨ j = 17 by omega) with rfl | rfl | rfl | rfl | rfl | rfl | rfl | rfl | rfl | rfl | rfl | rfl | rfl | rfl | rfl | rfl | rfl | rfl <;> rfl
theorem fsX12 : ∀ j, j < 68 → defaultValue (tyX12 j) = vp_V [.null, .int 0, .int 0, .int 0, .int 0, .int 0, .int 0, .long 0, .int 0, .int 0, .int 0, .int 0, .int 0, .int 0, .null, .null, .null, .null, .null, .null, .null, .null, .null, .null, .null, .null, .null, .null, .null, .null, .null, .null, .null, .int 0, .int 0, .int 0, .null, .null, .null, .null, .null, .int 0, .int 0, .null, .int 0, .int 0, .null, .null, .null, .null, .null, .null, .null, .int 0, .int 0, .long 0, .null, .null, .null, .null, .null, .int 0, .null, .null, .null, .null, .null, .int 0] j := fun j hj => by rcases (show j = 0 ∨ j = 1 ∨ j = 2 ∨ j = 3 ∨ j = 4 ∨ j = 5 ∨ j = 6 ∨ j = 7 ∨ j = 8 ∨ j = 9 ∨ j = 10 ∨ j = 11 ∨ j = 12 ∨ j = 13 ∨ j = 14 ∨ j = 15 ∨ j = 16 ∨ j = 17 ∨ j = 18 ∨ j = 19 ∨ j = 20 ∨ j = 21 ∨ j = 22 ∨ j = 23 ∨ j = 24 ∨ j = 25 ∨ j = 26 ∨ j = 27 ∨ j = 28 ∨ j = 29 ∨ j = 30 ∨ j = 31 ∨ j = 32 ∨ j = 33 ∨ j = 34 ∨ j = 35 ∨ j = 36 ∨ j = 37 ∨ j = 38 ∨ j = 39 ∨ j = 40 ∨ j = 41 ∨ j = 42 ∨ j = 43 ∨ j = 44 ∨ j = 45 ∨ j = 46 ∨ j = 47 ∨ j = 48 ∨ j = 49 ∨ j = 50 ∨ j = 51 ∨ j = 52 ∨ j = 53 ∨ j = 54 ∨ j = 55 ∨ j = 56 ∨ j = 57 ∨ j = 58 ∨ j = 59 ∨ j = 60 ∨ j = 61 ∨ j = 62 ∨ j = 63 ∨ j = 64 ∨ j = 65 ∨ j = 66 ∨ j = 67 by omega) with rfl | rfl | rfl | rfl | rfl | rfl | rfl | rfl | rfl | rfl | rfl | rfl | rfl | rfl | rfl | rfl | rfl | rfl | rfl | rfl | rfl | rfl | rfl | rfl | rfl | rfl | rfl | rfl | rfl | rfl | rfl | rfl | rfl | rfl | rfl | rfl | rfl | rfl | rfl | rfl | rfl | rfl | rfl | rfl | rfl | rfl | rfl | rfl | rfl | rfl | rfl | rfl | rfl | rfl | rfl | rfl | rfl | rfl | rfl | rfl | rfl | rfl | rfl | rfl | rfl | rfl | rfl | rfl <;> rfl
theorem ao_spec {args : Array Value} {s : State} (h : (Cond.arrayOver (.array .int)).before args s = true) : ∃ (comp c : ClassId) (k : Class), s.vm.findClass "[I" = some comp ∧ s.vm.classes[c]? = some k ∧ k.kind = .array comp (.array .int) ∧ s.vm.findClass "[[I" = some c := by
  have h : (Cond.arrayOver (.array .int)).holds args s none s [] = true := h
  simp only [Cond.holds, Cond.value, beq_iff_eq] at h
  cases hc : s.vm.findClass (FieldType.array .int).toString with
  | none => simp [hc] at h
  | some comp =>
    simp only [hc, Option.bind_some, Option.bind_eq_some_iff, Option.map_eq_some_iff] at h
    obtain ⟨c, hi, k, hk, hb⟩ := h
    obtain ⟨hlt, hp, -⟩ := Array.findIdx?_eq_some_iff_getElem.mp hi
    have hkk : s.vm.classes[c] = k := (Array.getElem?_eq_some_iff.mp hk).2
    rw [hkk] at hp
    cases hkind : k.kind with
    | array component ty =>
      rw [hkind] at hb hp
      simp at hb hp
      exact ⟨comp, c, k, hc, hk, by rw [hkind, hp, hb.1], hb.2⟩
    | _ => rw [hkind] at hb; simp at hb
/-- what the reference's cells hold at first -/
def MY0 : Mem := (fun k => if k = 9 then (-1) else if k = 11 then (-1) else if k = 12 then (-1) else if k = 34 then 1 else 0, fun p => if p = 14 then (upd (upd (upd (upd (fun _ => 0) 0 (-1)) 1 (-1)) 2 (-1)) 3 (-1)) else (fun _ => 0), fun _ => 0, fun k => if k = 55 then 1 else 0, fun _ _ => 0)
theorem MY0_wf : WFm LY MY0 := fun k hk => absurd hk (by show ¬ (99 : Nat) < 99; decide)
theorem nestW_in : ∀ w ∈ nestW, w ∈ lw_tbl := fun w hw => by
  have hp : nestW = [149, 168, 174, 486, 505, 518].filterMap (fun i => lw_tbl[i]?) := by decide +kernel
  rw [hp] at hw
  obtain ⟨i, -, hi⟩ := List.mem_filterMap.mp hw
  exact List.mem_of_getElem? hi
def pkO (f : Nat → Cond) (N : Nat) : List Cond → Nat → Bool
  | [], j => decide (N ≤ j)
  | t :: ts, j => if N ≤ j then true else if t = f j then pkO f N ts (j + 1) else pkO f N ts j
theorem pkO_s {f : Nat → Cond} {N : Nat} : ∀ (ts : List Cond) (j : Nat), pkO f N ts j = true → ∀ k, j ≤ k → k < N → f k ∈ ts
  | [], j, h => fun k h1 h2 => by
    have : N ≤ j := of_decide_eq_true h
    omega
  | t :: ts, j, h => fun k h1 h2 => by
    have h' : (if N ≤ j then true else if t = f j then pkO f N ts (j + 1) else pkO f N ts j) = true := h
    rw [if_neg (by omega)] at h'
    by_cases g : t = f j
    · rw [if_pos g] at h'
      by_cases e : k = j
      · rw [e, ← g]
        exact List.mem_cons_self
      · exact List.mem_cons_of_mem _ (pkO_s ts (j + 1) h' k (by omega) h2)
    · rw [if_neg g] at h'
      exact List.mem_cons_of_mem _ (pkO_s ts j h' k h1 h2)
theorem owB_k : pkO (fun j => Cond.eq (.elem (.field (.string "PalmHours$Tokens" 41) "java/lang/String" "value" "[B") (.int (Int32.ofNat j))) (.int (owB.getD j 0))) 121 (flatC (Jvm.Cond.and given_1 narrow_1)) 0 = true := by decide +kernel
theorem owB_in : ∀ j, j < 121 → Cond.eq (.elem (.field (.string "PalmHours$Tokens" 41) "java/lang/String" "value" "[B") (.int (Int32.ofNat j))) (.int (owB.getD j 0)) ∈ flatC (Jvm.Cond.and given_1 narrow_1) := fun j hj => pkO_s _ 0 owB_k j (Nat.zero_le j) hj
/-- what lies below the law's start -/
theorem law_EX {p : Program} {s : State} {m : MethodId} {meth : Method} {c : Code} {b L : Nat} {xs : Nat → Int32} (C0 : lw_At p s m meth c b L xs) : ∃ (D : va_G) (cy : Nat → ClassId) (ka va : Nat), va_K D vwCl (tyl cy) s ∧ EX cy s.heap.size ka va s := by
  obtain ⟨hx, hb, hr, hml, hown, hts, hX, hbl, hlocks, hgv⟩ := C0
  have htg : ∀ w ∈ lw_g, w.before #[Value.ref b] s = true := fun w h => hts w (sub_g h)
  have hs := flat_of_before _ hgv
  obtain ⟨c0, i0, hk0⟩ := u_known (C := RX0) (T := TX0) (N := 2) (n := 2) htg inX0 (htg _ xw173)
  obtain ⟨c1, i1, hk1⟩ := u_known (C := RX1) (T := TX1) (N := 8) (n := 8) htg inX1 (htg _ xw411)
  obtain ⟨c2, i2, hk2⟩ := u_known (C := RX2) (T := TX2) (N := 3) (n := 3) htg inX2 (htg _ xw485)
  obtain ⟨c3, i3, hk3⟩ := u_known (C := RX3) (T := TX3) (N := 3) (n := 3) htg inX3 (htg _ xw384)
  obtain ⟨c4, i4, hk4⟩ := u_known (C := RX4) (T := TX4) (N := 3) (n := 3) htg inX4 (htg _ xw283)
  obtain ⟨c5, i5, hk5⟩ := u_known (C := RX5) (T := TX5) (N := 5) (n := 5) htg inX5 (htg _ xw517)
  obtain ⟨c6, i6, hk6⟩ := u_known (C := RX6) (T := TX6) (N := 8) (n := 8) htg inX6 (htg _ xw447)
  obtain ⟨c7, i7, hk7⟩ := u_known (C := RX7) (T := TX7) (N := 2) (n := 2) htg inX7 (htg _ xw148)
  obtain ⟨c8, i8, hk8⟩ := u_known (C := RX8) (T := TX8) (N := 9) (n := 9) htg inX8 (htg _ xw289)
  obtain ⟨c9, i9, hk9⟩ := u_known (C := RX9) (T := TX9) (N := 19) (n := 19) htg inX9 (htg _ xw167)
  obtain ⟨c10, i10, hk10⟩ := u_known (C := RX10) (T := TX10) (N := 2) (n := 2) htg inX10 (htg _ xw504)
  obtain ⟨c11, i11, hk11⟩ := u_known (C := RX11) (T := TX11) (N := 18) (n := 18) htg inX11 (htg _ xw140)
  obtain ⟨c12, i12, hk12⟩ := u_known (C := RX12) (T := TX12) (N := 68) (n := 68) htg inX12 (htg _ xw1237)
  obtain ⟨ci, kI, bI, hfI, hkI, hdI⟩ := Cond.arrayClass_spec (htg _ xw165)
  obtain ⟨cl, kL, bL, hfL, hkL, hdL⟩ := Cond.arrayClass_spec (htg _ xw1447)
  obtain ⟨cz, kZ, bZ, hfZ, hkZ, hdZ⟩ := Cond.arrayClass_spec (htg _ xw1448)
  obtain ⟨c1', c33, kA, hfc, hkA, hdA, hfA⟩ := ao_spec (hts (Cond.arrayOver (.array .int)) (List.mem_of_getElem? (i := 491) (by decide +kernel)))
  have e1 : c1' = ci := Option.some.inj (hfc.symm.trans hfI)
  subst e1
  obtain ⟨adK, adV, hvS, hvE⟩ := vk_Sof (args := #[Value.ref b]) (s := s) (N := 1) (tm := fun _ => .string "PalmHours$Tokens" 41) (len := [121]) (byt := [owB]) (A := fun q => s.heap.size ≤ q)
    (fun i hi => by rw [show i = 0 by omega]; decide) (fun i hi => hs _ (by decide +kernel)) (fun i hi => hs _ (by decide +kernel)) (fun i hi => hs _ (by decide +kernel))
    (fun i hi => by rw [show i = 0 by omega]; exact hs _ (by decide +kernel)) (fun i hi j hj => by rw [show i = 0 by omega] at hj ⊢; exact hs _ (owB_in j hj)) (fun i j hi hj h => absurd (show i = j by omega) h) (fun a ha => Nat.not_le.mpr ha)
  refine ⟨(fun k => [c0, c1, c2, c3, c4, c5, c6, c7, c8, c9, c10, c11, c12].getD k c0, fun k => [i0, i1, i2, i3, i4, i5, i6, i7, i8, i9, i10, i11, i12].getD k i0), fun k => [c1', cl, cz, c33].getD k c1', adK 0, adV 0, ⟨?_, ?_⟩, ?_⟩
  · intro k q hq
    match k, hq with
    | 0, hq => cases hq; exact hk0
    | 1, hq => cases hq; exact hk1
    | 2, hq => cases hq; exact hk2
    | 3, hq => cases hq; exact hk3
    | 4, hq => cases hq; exact hk4
    | 5, hq => cases hq; exact hk5
    | 6, hq => cases hq; exact hk6
    | 7, hq => cases hq; exact hk7
    | 8, hq => cases hq; exact hk8
    | 9, hq => cases hq; exact hk9
    | 10, hq => cases hq; exact hk10
    | 11, hq => cases hq; exact hk11
    | 12, hq => cases hq; exact hk12
    | k + 13, hq => simp [vwCl] at hq
  · intro k q hq
    match k, hq with
    | 0, hq => cases hq; exact ⟨fun n z => ⟨(fun q hq => by cases hq), kI, hkI, bI, hdI⟩, hfI⟩
    | 1, hq => cases hq; exact ⟨fun n z => ⟨(fun q hq => by cases hq), kL, hkL, bL, hdL⟩, hfL⟩
    | 2, hq => cases hq; exact ⟨fun n z => ⟨(fun q hq => by cases hq), kZ, hkZ, bZ, hdZ⟩, hfZ⟩
    | 3, hq => cases hq; exact ⟨fun n z => ⟨(fun q hq => by cases hq), kA, hkA, c1', hdA⟩, hfA⟩
    | k + 4, hq => simp [tyl] at hq
  · refine ⟨⟨⟨kA, hkA, hdA⟩, kI, bI, hkI, hdI⟩, fun w hw => ?_, vk_R.of (hts _ (List.mem_of_getElem? (i := 294) (by decide +kernel))) (hvE 0 (by decide)), ?_, va_Zof (hts _ (List.mem_of_getElem? (i := 304) (by decide +kernel))) (htg _ w126) (va_eqt (hs _ (by decide +kernel))) (fun a ha => Nat.not_le.mpr ha), va_Zqof (hts _ (List.mem_of_getElem? (i := 320) (by decide +kernel))) (htg _ w128) (hs _ (by decide +kernel)) (fun a ha => Nat.not_le.mpr ha)⟩
    · have h9 := hts w (nestW_in w hw)
      obtain ⟨a, i, x, h, rfl⟩ := nestW_M w hw
      exact va_Nw.of rfl h9
    · refine ⟨fun i hi => ?_, fun i j hi hj _ => by omega⟩
      have h9 := hvS.1 0 (by decide)
      rw [show i = 0 by omega]
      exact h9
set_option maxHeartbeats 4000000 in
set_option maxRecDepth 20000 in
theorem start_gen {p : Program} {e : Env} {s : State} {m : MethodId} {below : List Frame} {meth : Method} {c : Code} (l : Launch) {b L : Nat} {xs : Nat → Int32} (hL : L ≤ 3072) (C0 : lw_At p s m meth c b L xs) {n0 w : Nat} {M1 : Mem} (hbeg : fX11_begin n0 MX0 = some M1) (hlaw : lawF n0 L xs w 0 M1 MY0 = some ()) : W p l e room_1 s m #[Value.ref b] below meth c s.heap [] 0 0 (lw_Z below #[Value.ref b] s) (entryFrame m ([Value.ref b] : List Value).toArray 4) := by
  obtain ⟨D, cy, ka, va, hK, hE⟩ := law_EX C0
  obtain ⟨hx, hb, hr, hml, hown, hts, hX, hbl, hlocks, hgv⟩ := C0
  have htg : ∀ w ∈ lw_g, w.before #[Value.ref b] s = true := fun w h => hts w (sub_g h)
  have hA : ∀ q : Nat, s.heap.size ≤ q → (fun q : Nat => s.heap.size ≤ q) q := fun _ h => h
  have hS : va_S (fun q : Nat => s.heap.size ≤ q) s.heap s.heap [] := va_S.rf
  have hP : va_P D vwCl [] s.heap := fun k q h => by simp at h
  have hD : va_D (fun q : Nat => s.heap.size ≤ q) [] := ⟨fun i j p q h => by simp at h, fun k q h => by simp at h⟩
  have hl := lv_entry ([.ref b]) (n := 4) (Nat.le_of_ble_eq_true rfl)
  rw [lg_entry_eq]
  generalize (lg_sl ([.ref b]) ++ List.replicate (4 - (lg_sl ([.ref b])).length) Slot.unset).toArray = ls at hl ⊢
  have hl : lv_has ls 4 [(0, .ref b)] := hl
  have nX := nlL_7
  have nY := nlL_10
  refine va_new (ci := 11) (fs := [.null, .null, .null, .null, .null, .null, .null, .null, .null, .null, .null, .null, .null, .null, .int 0, .int 0, .int 0, .int 0]) (C := RX11) (T := TX11) (N := 18) hx hb htg inX11 tyX11 tyX11_ok hown (htg _ nX.2.2.1) (htg _ nX.2.2.2.1) (htg _ nX.2.2.2.2.1) hK hP hD hS hA rfl fsX11 (Nat.le_of_ble_eq_true rfl) (Nat.le_of_ble_eq_true rfl) dL_law_0 (fun q0v H hP hD hS => ?_)
  have hP : va_P D vwCl [(q0v, .inr (11, [.null, .null, .null, .null, .null, .null, .null, .null, .null, .null, .null, .null, .null, .null, .int 0, .int 0, .int 0, .int 0]))] H := hP
  have hD : va_D (fun q : Nat => s.heap.size ≤ q) [(q0v, .inr (11, [.null, .null, .null, .null, .null, .null, .null, .null, .null, .null, .null, .null, .null, .null, .int 0, .int 0, .int 0, .int 0]))] := hD
  refine lv_dup hx hb dL_law_3 rfl ?_
  have hFc := va_free (wc := [(q0v, .inr (11, [.null, .null, .null, .null, .null, .null, .null, .null, .null, .null, .null, .null, .null, .null, .int 0, .int 0, .int 0, .int 0]))]) hD hS hA [0] rfl
  refine va_callv (va_runI (As := []) (rest := [.ref q0v]) ⟨hx, hb, hml, hown, htg⟩ (ccX11_init (l := l) (D := D) (cy := cy) (B0 := s.heap.size) (ka := ka) (va := va) q0v hbeg H.size) ⟨callB_of 0 htg (gd_all mdX11_init) rfl rfl rfl (htg _ w120) (htg _ w141) mdX11_init.2.2.1 ⟨(Nat.le_of_ble_eq_true rfl), (Nat.le_of_ble_eq_true rfl)⟩, rfl, htg _ w142⟩ ⟨CC_blind, fun U hU hW => ⟨rfl, by rw [hU], by rw [hU]; exact hP, va_K.moved hW.alike hK, hD.weaken (fun _ _ _ _ => trivial), EX.st hW (fun a h1 h2 => by rw [hU]; exact hS.2.1 a h1 h2) hE, fun q h => hFc q h⟩⟩ rfl rfl hl.1 rfl (lv_room (Nat.le_of_ble_eq_true rfl)) dL_law_4 ⟨(Nat.le_of_ble_eq_true rfl), (Nat.le_of_ble_eq_true rfl)⟩) hS (fun q _ h => hFc q h) hFc (fun ax t H1 locs ht hvm hw hB hz1 hk1 hS => ?_)
  obtain ⟨hax0, hIX, haxA⟩ := hw
  have hWX : WD LX D cy ax M1 H1 := ⟨by have := hB.1.1; rw [ht] at this; exact this, hB.1.2⟩
  have haxs : ∀ k, k < 90 → s.heap.size ≤ ax k := fun k hk => hFc _ (haxA k hk)
  refine lv_astore_n (lv' := [(1, .ref q0v), (0, .ref b)]) hx hb dL_law_7 rfl hl (by decide) rfl (fun ls hl => ?_)
  have hDX : va_D (fun q : Nat => s.heap.size ≤ q) (wl LX cy ax M1) := ⟨(wl_D hIX M1).1, fun k q hk => by
    obtain ⟨h1, rfl⟩ := wl_at hk
    exact haxs k h1⟩
  refine va_new (ci := 12) (fs := [.null, .int 0, .int 0, .int 0, .int 0, .int 0, .int 0, .long 0, .int 0, .int 0, .int 0, .int 0, .int 0, .int 0, .null, .null, .null, .null, .null, .null, .null, .null, .null, .null, .null, .null, .null, .null, .null, .null, .null, .null, .null, .int 0, .int 0, .int 0, .null, .null, .null, .null, .null, .int 0, .int 0, .null, .int 0, .int 0, .null, .null, .null, .null, .null, .null, .null, .int 0, .int 0, .long 0, .null, .null, .null, .null, .null, .int 0, .null, .null, .null, .null, .null, .int 0]) (C := RX12) (T := TX12) (N := 68) hx hb htg inX12 tyX12 tyX12_ok hown (htg _ nY.2.2.1) (htg _ nY.2.2.2.1) (htg _ nY.2.2.2.2.1) hK hWX.1 hDX hS hA rfl fsX12 (Nat.le_of_ble_eq_true rfl) (Nat.le_of_ble_eq_true rfl) dL_law_8 (fun q8v H2 hP2 hD2 hS => ?_)
  have hlen : (wl LX cy ax M1).length = 90 := by unfold wl; rw [List.length_map, List.length_range]; rfl
  have hlast : (wl LX cy ax M1 ++ [(q8v, .inr (12, [.null, .int 0, .int 0, .int 0, .int 0, .int 0, .int 0, .long 0, .int 0, .int 0, .int 0, .int 0, .int 0, .int 0, .null, .null, .null, .null, .null, .null, .null, .null, .null, .null, .null, .null, .null, .null, .null, .null, .null, .null, .null, .int 0, .int 0, .int 0, .null, .null, .null, .null, .null, .int 0, .int 0, .null, .int 0, .int 0, .null, .null, .null, .null, .null, .null, .null, .int 0, .int 0, .long 0, .null, .null, .null, .null, .null, .int 0, .null, .null, .null, .null, .null, .int 0]))])[90]? = some (q8v, .inr (12, [.null, .int 0, .int 0, .int 0, .int 0, .int 0, .int 0, .long 0, .int 0, .int 0, .int 0, .int 0, .int 0, .int 0, .null, .null, .null, .null, .null, .null, .null, .null, .null, .null, .null, .null, .null, .null, .null, .null, .null, .null, .null, .int 0, .int 0, .int 0, .null, .null, .null, .null, .null, .int 0, .int 0, .null, .int 0, .int 0, .null, .null, .null, .null, .null, .null, .null, .int 0, .int 0, .long 0, .null, .null, .null, .null, .null, .int 0, .null, .null, .null, .null, .null, .int 0])) := by rw [List.getElem?_append_right (by rw [hlen]; exact Nat.le_refl _), hlen]; rfl
  have hfirst : ∀ (k : Nat) (q : Nat × va_E), (wl LX cy ax M1)[k]? = some q → (wl LX cy ax M1 ++ [(q8v, .inr (12, [.null, .int 0, .int 0, .int 0, .int 0, .int 0, .int 0, .long 0, .int 0, .int 0, .int 0, .int 0, .int 0, .int 0, .null, .null, .null, .null, .null, .null, .null, .null, .null, .null, .null, .null, .null, .null, .null, .null, .null, .null, .null, .int 0, .int 0, .int 0, .null, .null, .null, .null, .null, .int 0, .int 0, .null, .int 0, .int 0, .null, .null, .null, .null, .null, .null, .null, .int 0, .int 0, .long 0, .null, .null, .null, .null, .null, .int 0, .null, .null, .null, .null, .null, .int 0]))])[k]? = some q := fun k q hk => by
    rw [List.getElem?_append_left (List.getElem?_eq_some_iff.mp hk).1]; exact hk
  have hPX2 : va_P D vwCl (wl LX cy ax M1) H2 := fun k q hk => hP2 k q (hfirst k q hk)
  have hPY : va_P D vwCl [(q8v, .inr (12, [.null, .int 0, .int 0, .int 0, .int 0, .int 0, .int 0, .long 0, .int 0, .int 0, .int 0, .int 0, .int 0, .int 0, .null, .null, .null, .null, .null, .null, .null, .null, .null, .null, .null, .null, .null, .null, .null, .null, .null, .null, .null, .int 0, .int 0, .int 0, .null, .null, .null, .null, .null, .int 0, .int 0, .null, .int 0, .int 0, .null, .null, .null, .null, .null, .null, .null, .int 0, .int 0, .long 0, .null, .null, .null, .null, .null, .int 0, .null, .null, .null, .null, .null, .int 0]))] H2 := fun k q hk => by
    have hz : k < 1 := (List.getElem?_eq_some_iff.mp hk).1
    rw [show k = 0 by omega] at hk
    cases hk
    exact hP2 90 _ hlast
  have hq8 : s.heap.size ≤ q8v := hD2.2 90 _ hlast
  have hDY : va_D (fun q : Nat => s.heap.size ≤ q) [(q8v, .inr (12, [.null, .int 0, .int 0, .int 0, .int 0, .int 0, .int 0, .long 0, .int 0, .int 0, .int 0, .int 0, .int 0, .int 0, .null, .null, .null, .null, .null, .null, .null, .null, .null, .null, .null, .null, .null, .null, .null, .null, .null, .null, .null, .int 0, .int 0, .int 0, .null, .null, .null, .null, .null, .int 0, .int 0, .null, .int 0, .int 0, .null, .null, .null, .null, .null, .null, .null, .int 0, .int 0, .long 0, .null, .null, .null, .null, .null, .int 0, .null, .null, .null, .null, .null, .int 0]))] := ⟨fun i j p q hi hj _ => by
    have h1 : i < 1 := (List.getElem?_eq_some_iff.mp hi).1
    have h2 : j < 1 := (List.getElem?_eq_some_iff.mp hj).1
    omega, fun k q hk => by
    have hz : k < 1 := (List.getElem?_eq_some_iff.mp hk).1
    rw [show k = 0 by omega] at hk
    cases hk
    exact hq8⟩
  have hxq : ∀ i, i < 90 → ax i ≠ q8v := fun i hi h => by
    have h9 := hD2.1 i 90 _ _ (hfirst i _ (wl_get (G := LX) hi)) hlast h
    omega
  have hxl : ∀ i, i < 90 → ax i < H2.size := fun i hi => (hPX2 i _ (wl_get (G := LX) hi)).lt
  refine lv_dup hx hb dL_law_11 rfl ?_
  have hFy := va_free (wc := [(q8v, .inr (12, [.null, .int 0, .int 0, .int 0, .int 0, .int 0, .int 0, .long 0, .int 0, .int 0, .int 0, .int 0, .int 0, .int 0, .null, .null, .null, .null, .null, .null, .null, .null, .null, .null, .null, .null, .null, .null, .null, .null, .null, .null, .null, .int 0, .int 0, .int 0, .null, .null, .null, .null, .null, .int 0, .int 0, .null, .int 0, .int 0, .null, .null, .null, .null, .null, .null, .null, .int 0, .int 0, .long 0, .null, .null, .null, .null, .null, .int 0, .null, .null, .null, .null, .null, .int 0]))]) hDY hS hA [0] rfl
  refine va_callv (va_runI (As := []) (rest := [.ref q8v]) ⟨hx, hb, hml, hown, htg⟩ (ccX12_init (l := l) (D := D) (cy := cy) (B0 := s.heap.size) (ka := ka) (va := va) q8v H2.size) ⟨callB_of 0 htg (gd_all mdX12_init) rfl rfl rfl (htg _ w137) (htg _ w1238) mdX12_init.2.2.1 ⟨(Nat.le_of_ble_eq_true rfl), (Nat.le_of_ble_eq_true rfl)⟩, rfl, htg _ w1239⟩ ⟨CC_blind, fun U hU hW => ⟨rfl, by rw [hU], by rw [hU]; exact hPY, va_K.moved hW.alike hK, hDY.weaken (fun _ _ _ _ => trivial), EX.st hW (fun a h1 h2 => by rw [hU]; exact hS.2.1 a h1 h2) hE, fun q h => hFy q h⟩⟩ rfl rfl hl.1 rfl (lv_room (Nat.le_of_ble_eq_true rfl)) dL_law_12 ⟨(Nat.le_of_ble_eq_true rfl), (Nat.le_of_ble_eq_true rfl)⟩) hS (fun q _ h => hFy q h) hFy (fun u t2 H3 locs3 ht2 hvm2 hw2 hB2 hz2 hk2 hS => ?_)
  obtain ⟨hP3, hK3, hD3⟩ := hB2
  rw [ht2] at hP3
  have ey : [(q8v, .inr (12, [.ref (u 0), .int 0, .int 0, .int 0, .int 0, .int 0, .int 0, .long 0, .int 0, .int (-1), .int 0, .int (-1), .int (-1), .int 0, .ref (u 1), .ref (u 2), .ref (u 3), .ref (u 4), .ref (u 5), .ref (u 6), .ref (u 7), .ref (u 8), .ref (u 9), .ref (u 10), .ref (u 11), .ref (u 12), .ref (u 13), .ref (u 14), .ref (u 15), .ref (u 16), .ref (u 17), .ref (u 18), .ref (u 19), .int 0, .int 1, .int 0, .ref (u 20), .ref (u 21), .ref (u 22), .ref (u 23), .ref (u 24), .int 0, .int 0, .ref (u 25), .int 0, .int 0, .ref (u 26), .ref (u 27), .ref (u 28), .ref (u 29), .ref (u 30), .ref (u 31), .ref (u 32), .int 0, .int 0, .long 1, .ref (u 33), .ref (u 34), .ref (u 35), .ref (u 36), .ref (u 37), .int 0, .ref (u 38), .ref (u 39), .ref (u 40), .ref (u 41), .ref (u 42), .int 0])), ((u 0), .inl (cy 0, 1800, .inl (fun _ => 0))), ((u 1), .inl (cy 0, 2, .inl (fun _ => 0))), ((u 2), .inl (cy 0, 12, .inl (fun _ => 0))), ((u 3), .inl (cy 0, 12, .inl (fun _ => 0))), ((u 4), .inl (cy 0, 2, .inl (fun _ => 0))), ((u 5), .inl (cy 0, 10, .inl (fun _ => 0))), ((u 6), .inl (cy 0, 2, .inl (fun _ => 0))), ((u 7), .inl (cy 0, 50, .inl (fun _ => 0))), ((u 8), .inl (cy 0, 50, .inl (fun _ => 0))), ((u 9), .inl (cy 0, 2, .inl (fun _ => 0))), ((u 10), .inl (cy 0, 12, .inl (fun _ => 0))), ((u 11), .inl (cy 0, 12, .inl (fun _ => 0))), ((u 12), .inl (cy 0, 2, .inl (fun _ => 0))), ((u 13), .inl (cy 0, 4, .inl (upd (upd (upd (upd (fun _ => 0) 0 (-1)) 1 (-1)) 2 (-1)) 3 (-1)))), ((u 14), .inl (cy 0, 4, .inl (fun _ => 0))), ((u 15), .inl (cy 0, 3200, .inl (fun _ => 0))), ((u 16), .inl (cy 0, 3200, .inl (fun _ => 0))), ((u 17), .inl (cy 1, 12, .inr (.inl (fun _ => 0)))), ((u 18), .inl (cy 1, 10, .inr (.inl (fun _ => 0)))), ((u 19), .inl (cy 1, 12, .inr (.inl (fun _ => 0)))), ((u 20), .inl (cy 0, 20, .inl (fun _ => 0))), ((u 21), .inl (cy 0, 20, .inl (fun _ => 0))), ((u 22), .inl (cy 2, 20, .inl (fun _ => 0))), ((u 23), .inl (cy 0, 20, .inl (fun _ => 0))), ((u 24), .inl (cy 0, 20, .inl (fun _ => 0))), ((u 25), .inl (cy 0, 500, .inl (fun _ => 0))), ((u 26), .inl (cy 0, 6, .inl (fun _ => 0))), ((u 27), .inl (cy 0, 22, .inl (fun _ => 0))), ((u 28), .inl (cy 0, 110, .inl (fun _ => 0))), ((u 29), .inl (cy 0, 110, .inl (fun _ => 0))), ((u 30), .inl (cy 0, 22, .inl (fun _ => 0))), ((u 31), .inl (cy 0, 22, .inl (fun _ => 0))), ((u 32), .inl (cy 0, 1760, .inl (fun _ => 0))), ((u 33), .inl (cy 1, 500, .inr (.inl (fun _ => 0)))), ((u 34), .inl (cy 0, 10, .inl (fun _ => 0))), ((u 35), .inl (cy 0, 5, .inl (fun _ => 0))), ((u 36), .inl (cy 0, 5, .inl (fun _ => 0))), ((u 37), .inl (cy 0, 61, .inl (fun _ => 0))), ((u 38), .inl (cy 0, 16, .inl (fun _ => 0))), ((u 39), .inl (cy 0, 16, .inl (fun _ => 0))), ((u 40), .inl (cy 0, 16, .inl (fun _ => 0))), ((u 41), .inl (cy 0, 287, .inl (fun _ => 0))), ((u 42), .inl (cy 0, 40, .inl (fun _ => 0)))] = wl LY cy (fun k => match k with | 0 => q8v | k + 1 => u k) MY0 := rfl
  generalize hay : (fun k : Nat => match k with | 0 => q8v | k + 1 => u k) = ay at ey
  have hP3 : va_P D vwCl (wl LY cy ay MY0) H3 := by rw [← ey]; exact hP3
  have hD3 : va_D (va_A [(q8v, .inr (12, [.null, .int 0, .int 0, .int 0, .int 0, .int 0, .int 0, .long 0, .int 0, .int 0, .int 0, .int 0, .int 0, .int 0, .null, .null, .null, .null, .null, .null, .null, .null, .null, .null, .null, .null, .null, .null, .null, .null, .null, .null, .null, .int 0, .int 0, .int 0, .null, .null, .null, .null, .null, .int 0, .int 0, .null, .int 0, .int 0, .null, .null, .null, .null, .null, .null, .null, .int 0, .int 0, .long 0, .null, .null, .null, .null, .null, .int 0, .null, .null, .null, .null, .null, .int 0]))] H2.size) (wl LY cy ay MY0) := by rw [← ey]; exact hD3
  have hay0 : ay 0 = q8v := by rw [← hay]
  have hIY : Inj LY ay := fun i j hi hj h => hD3.1 i j _ _ (wl_get hi) (wl_get hj) h
  have hayA : ∀ k, k < 44 → va_A [(q8v, .inr (12, [.null, .int 0, .int 0, .int 0, .int 0, .int 0, .int 0, .long 0, .int 0, .int 0, .int 0, .int 0, .int 0, .int 0, .null, .null, .null, .null, .null, .null, .null, .null, .null, .null, .null, .null, .null, .null, .null, .null, .null, .null, .null, .int 0, .int 0, .int 0, .null, .null, .null, .null, .null, .int 0, .int 0, .null, .int 0, .int 0, .null, .null, .null, .null, .null, .null, .null, .int 0, .int 0, .long 0, .null, .null, .null, .null, .null, .int 0, .null, .null, .null, .null, .null, .int 0]))] H2.size (ay k) := fun k hk => hD3.2 k _ (wl_get (G := LY) hk)
  have hyq : ∀ q, va_A [(q8v, .inr (12, [.null, .int 0, .int 0, .int 0, .int 0, .int 0, .int 0, .long 0, .int 0, .int 0, .int 0, .int 0, .int 0, .int 0, .null, .null, .null, .null, .null, .null, .null, .null, .null, .null, .null, .null, .null, .null, .null, .null, .null, .null, .null, .int 0, .int 0, .int 0, .null, .null, .null, .null, .null, .int 0, .int 0, .null, .int 0, .int 0, .null, .null, .null, .null, .null, .null, .null, .int 0, .int 0, .long 0, .null, .null, .null, .null, .null, .int 0, .null, .null, .null, .null, .null, .int 0]))] H2.size q → q = q8v ∨ H2.size ≤ q := fun q h => by
    rcases h with ⟨k, e9, hk⟩ | h
    · have hz : k < 1 := (List.getElem?_eq_some_iff.mp hk).1
      rw [show k = 0 by omega] at hk
      cases hk
      exact Or.inl rfl
    · exact Or.inr h
  have hdis : ∀ i j, i < 90 → j < 44 → ax i ≠ ay j := fun i j hi hj h => by
    have h1 := hxl i hi
    rcases hyq _ (hayA j hj) with h9 | h9
    · exact hxq i hi (h.trans h9)
    · rw [h] at h1; omega
  have hWX3 : WD LX D cy ax M1 H3 := ⟨hPX2.kept (fun k q hk => by
    obtain ⟨h1, rfl⟩ := wl_at hk
    refine hk2 _ (hxl k h1) (fun h9 => ?_)
    rcases hyq _ h9 with h8 | h8
    · exact hxq k h1 h8
    · have := hxl k h1; omega), hWX.2⟩
  refine lv_astore_n (lv' := [(2, .ref q8v), (1, .ref q0v), (0, .ref b)]) hx hb dL_law_15 rfl hl (by decide) rfl (fun ls hl => ?_)
  refine lv_iconst (v := 0) hx hb dL_law_16 (by decide) ?_
  refine lv_istore_n (lv' := [(3, .int 0), (2, .ref q8v), (1, .ref q0v), (0, .ref b)]) hx hb dL_law_17 rfl hl (by decide) rfl (fun ls hl => ?_)
  have hO : OKl p s m meth c b L xs D cy ax ay := ⟨hx, hb, hml, hown, htg, hK, hIX, hIY, hdis, haxs, fun j hj => hFy _ (hayA j hj), hX, hbl, hlocks, hr⟩
  have hgo := law_loop (l := l) (e := e) (below := below) (cells := 134) (slots := 21413) n0 hO hL (Nat.le_of_ble_eq_true rfl) (Nat.le_of_ble_eq_true rfl) w 0 M1 MY0 (Nat.zero_le _) hlaw
  rw [hax0, hay0] at hgo
  exact hgo H3 _ ls hWX3 ⟨hP3, MY0_wf⟩ hS (lv_sub hl [3, 2, 1, 0] rfl)
