/-! FLAT MEMORY: all that the objects of one side hold: ints by number, int arrays by place, references that change by number, longs, long arrays. 'place': a cell's number; its address is ad place. -/
/-- the tables' words that stay true as the machine goes on -/
def lw_g : List Cond := lw_tbl.filter goodWord
abbrev Mem : Type := (Nat → Int32) × (Nat → Nat → Int32) × (Nat → Nat) × (Nat → Int64) × (Nat → Nat → Int64)
def gI (M : Mem) (k : Nat) : Int32 := M.1 k
def gA (M : Mem) (a i : Nat) : Int32 := M.2.1 a i
def gR (M : Mem) (k : Nat) : Nat := M.2.2.1 k
def gL (M : Mem) (k : Nat) : Int64 := M.2.2.2.1 k
def gB (M : Mem) (a i : Nat) : Int64 := M.2.2.2.2 a i
def sI (M : Mem) (k : Nat) (v : Int32) : Mem := (upd M.1 k v, M.2)
def sA (M : Mem) (a i : Nat) (v : Int32) : Mem := (M.1, va_up M.2.1 a (upd (M.2.1 a) i v), M.2.2)
def sR (M : Mem) (k v : Nat) : Mem := (M.1, M.2.1, va_up M.2.2.1 k v, M.2.2.2)
def sL (M : Mem) (k : Nat) (v : Int64) : Mem := (M.1, M.2.1, M.2.2.1, vp_updL M.2.2.2.1 k v, M.2.2.2.2)
def sB (M : Mem) (a i : Nat) (v : Int64) : Mem := (M.1, M.2.1, M.2.2.1, M.2.2.2.1, va_up M.2.2.2.2 a (vp_updL (M.2.2.2.2 a) i v))
/-- an int array gets other contents -/
def sF (M : Mem) (a : Nat) (f : Nat → Int32) : Mem := (M.1, va_up M.2.1 a f, M.2.2)
/-- a layout: the kind of a place (0 .. 12 an object of that class, 13 int[], 14 long[], 15 boolean[], 16 int[][]); the fields of a class (0 int, 1 long, 2 a reference that changes, 3 + d the place d further); an array's length; where an int[][]'s rows begin; the kind of what a changing reference is; how many places -/
abbrev Lay : Type := (Nat → Nat) × (Nat → List Nat) × (Nat → Nat) × (Nat → Nat) × (Nat → Nat) × Nat
def Lay.kd (G : Lay) (p : Nat) : Nat := G.1 p
def Lay.ds (G : Lay) (c : Nat) : List Nat := G.2.1 c
def Lay.ln (G : Lay) (p : Nat) : Nat := G.2.2.1 p
def Lay.ob (G : Lay) (p : Nat) : Nat := G.2.2.2.1 p
def Lay.rk (G : Lay) (k : Nat) : Nat := G.2.2.2.2.1 k
def Lay.nn (G : Lay) : Nat := G.2.2.2.2.2
def isK (G : Lay) (p c : Nat) : Prop := G.kd p = c ∧ p < G.nn
def WFm (G : Lay) (M : Mem) : Prop := ∀ k, G.rk k < 99 → isK G (gR M k) (G.rk k)
def vl (ad : Nat → Nat) (M : Mem) (p k d : Nat) : Value := match d with
  | 0 => .int (gI M (128 * p + k))
  | 1 => .long (gL M (128 * p + k))
  | 2 => .ref (ad (gR M (128 * p + k)))
  | d + 3 => .ref (ad (p + d))
def mkF (ad : Nat → Nat) (M : Mem) (p : Nat) : Nat → List Nat → List Value
  | _, [] => []
  | k, d :: ds => vl ad M p k d :: mkF ad M p (k + 1) ds
def cE (G : Lay) (cy : Nat → ClassId) (ad : Nat → Nat) (M : Mem) (p : Nat) : va_E :=
  if G.kd p < 13 then .inr (G.kd p, mkF ad M p 0 (G.ds (G.kd p)))
  else if G.kd p = 13 then .inl (cy 0, G.ln p, .inl (gA M p))
  else if G.kd p = 14 then .inl (cy 1, G.ln p, .inr (.inl (gB M p)))
  else if G.kd p = 15 then .inl (cy 2, G.ln p, .inl (gA M p))
  else .inl (cy 3, G.ln p, .inr (.inr (.inr (.inr (fun i => some (ad (G.ob p + i)))))))
def wl (G : Lay) (cy : Nat → ClassId) (ad : Nat → Nat) (M : Mem) : va_W := (List.range G.nn).map (fun p => (ad p, cE G cy ad M p))
def tyl (cy : Nat → ClassId) : List (ClassId × FieldType) := [(cy 0, .int), (cy 1, .long), (cy 2, .boolean), (cy 3, .array .int)]
theorem wl_get {G : Lay} {cy : Nat → ClassId} {ad : Nat → Nat} {M : Mem} {p : Nat} (h : p < G.nn) : (wl G cy ad M)[p]? = some (ad p, cE G cy ad M p) := by
  unfold wl
  rw [List.getElem?_map, List.getElem?_range h]
  rfl
theorem wl_set {G : Lay} {cy : Nat → ClassId} {ad : Nat → Nat} {M M' : Mem} {p : Nat} {e : va_E} (hp : cE G cy ad M' p = e) (hq : ∀ q, q ≠ p → cE G cy ad M' q = cE G cy ad M q) : (wl G cy ad M).set p (ad p, e) = wl G cy ad M' := by
  apply List.ext_getElem?
  intro i
  rw [List.getElem?_set]
  by_cases hi : i < G.nn
  · rw [wl_get hi]
    by_cases hip : p = i
    · subst hip
      rw [if_pos rfl, if_pos (by unfold wl; rw [List.length_map, List.length_range]; exact hi), wl_get hi, hp]
    · rw [if_neg hip, wl_get hi, hq i (fun h => hip h.symm)]
  · have h1 : (wl G cy ad M')[i]? = none := List.getElem?_eq_none (by unfold wl; rw [List.length_map, List.length_range]; omega)
    have h2 : (wl G cy ad M)[i]? = none := List.getElem?_eq_none (by unfold wl; rw [List.length_map, List.length_range]; omega)
    rw [h1, h2]
    by_cases hip : p = i
    · subst hip
      rw [if_pos rfl, if_neg (by unfold wl; rw [List.length_map, List.length_range]; exact hi)]
    · rw [if_neg hip]
theorem mkF_congr {ad : Nat → Nat} {M M' : Mem} {p : Nat} : ∀ (ds : List Nat) (k : Nat), (∀ j, k ≤ j → j < k + ds.length → ∀ d, vl ad M' p j d = vl ad M p j d) → mkF ad M' p k ds = mkF ad M p k ds
  | [], _, _ => rfl
  | d :: ds, k, h => by
    show vl ad M' p k d :: mkF ad M' p (k + 1) ds = vl ad M p k d :: mkF ad M p (k + 1) ds
    rw [h k (Nat.le_refl k) (by simp) d, mkF_congr ds (k + 1) (fun j h1 h2 d => h j (by omega) (by simp at h2 ⊢; omega) d)]
theorem mkF_set {ad : Nat → Nat} {M M' : Mem} {p i d : Nat} {v : Value} (hv : vl ad M' p i d = v) (hne : ∀ j, j ≠ i → ∀ d, vl ad M' p j d = vl ad M p j d) : ∀ (ds : List Nat) (k : Nat), k ≤ i → ds[i - k]? = some d → mkF ad M' p k ds = (mkF ad M p k ds).set (i - k) v
  | [], _, _, h => by simp at h
  | e :: ds, k, hk, h => by
    by_cases hki : k = i
    · subst hki
      rw [Nat.sub_self] at h ⊢
      have he : e = d := by simpa using h
      subst he
      show vl ad M' p k e :: mkF ad M' p (k + 1) ds = v :: mkF ad M p (k + 1) ds
      rw [hv, mkF_congr ds (k + 1) (fun j h1 _ d => hne j (by omega) d)]
    · obtain ⟨n, hn⟩ : ∃ n, i - k = n + 1 := ⟨i - k - 1, by omega⟩
      have hn2 : i - (k + 1) = n := by omega
      rw [hn] at h ⊢
      show vl ad M' p k e :: mkF ad M' p (k + 1) ds = vl ad M p k e :: (mkF ad M p (k + 1) ds).set n v
      rw [hne k hki e, ← hn2, mkF_set hv hne ds (k + 1) (by omega) (by rw [hn2]; simpa using h)]
theorem mkF_length {ad : Nat → Nat} {M : Mem} {p : Nat} : ∀ (ds : List Nat) (k : Nat), (mkF ad M p k ds).length = ds.length
  | [], _ => rfl
  | _ :: ds, k => by show (mkF ad M p (k + 1) ds).length + 1 = _; rw [mkF_length ds]; rfl
theorem vl_far {ad : Nat → Nat} {M M' : Mem} {p j d : Nat} (h1 : gI M' (128 * p + j) = gI M (128 * p + j)) (h2 : gL M' (128 * p + j) = gL M (128 * p + j)) (h3 : gR M' (128 * p + j) = gR M (128 * p + j)) : vl ad M' p j d = vl ad M p j d := by
  match d with
  | 0 => show Value.int _ = .int _; rw [h1]
  | 1 => show Value.long _ = .long _; rw [h2]
  | 2 => show Value.ref (ad _) = .ref (ad _); rw [h3]
  | d + 3 => rfl
theorem gI_sI {M : Mem} {k j : Nat} {v : Int32} : gI (sI M k v) j = if j = k then v else gI M j := rfl
theorem gL_sL {M : Mem} {k j : Nat} {v : Int64} : gL (sL M k v) j = if j = k then v else gL M j := rfl
theorem gR_sR {M : Mem} {k j v : Nat} : gR (sR M k v) j = if j = k then v else gR M j := rfl
theorem gA_sA {M : Mem} {a b i j : Nat} {v : Int32} : gA (sA M a i v) b j = if b = a then (if j = i then v else gA M a j) else gA M b j := by
  show va_up M.2.1 a (upd (M.2.1 a) i v) b j = _
  unfold va_up upd gA
  by_cases h : b = a
  · rw [if_pos h, if_pos h]
  · rw [if_neg h, if_neg h]
theorem gB_sB {M : Mem} {a b i j : Nat} {v : Int64} : gB (sB M a i v) b j = if b = a then (if j = i then v else gB M a j) else gB M b j := by
  show va_up M.2.2.2.2 a (vp_updL (M.2.2.2.2 a) i v) b j = _
  unfold va_up vp_updL gB
  by_cases h : b = a
  · rw [if_pos h, if_pos h]
  · rw [if_neg h, if_neg h]
theorem gA_sF {M : Mem} {a b j : Nat} {f : Nat → Int32} : gA (sF M a f) b j = if b = a then f j else gA M b j := by
  show va_up M.2.1 a f b j = _
  unfold va_up gA
  by_cases h : b = a
  · rw [if_pos h, if_pos h]
  · rw [if_neg h, if_neg h]
def LOK (G : Lay) : Prop := ∀ c, (G.ds c).length ≤ 128
/-- a change of the numbers at 128 * p + k alone -/
theorem cE_far {G : Lay} (hG : LOK G) {cy : Nat → ClassId} {ad : Nat → Nat} {M M' : Mem} {p k q : Nat} (hk : k < 128) (hq : q ≠ p) (h1 : ∀ j, j ≠ 128 * p + k → gI M' j = gI M j) (h2 : ∀ j, j ≠ 128 * p + k → gL M' j = gL M j) (h3 : ∀ j, j ≠ 128 * p + k → gR M' j = gR M j) (h4 : gA M' q = gA M q) (h5 : gB M' q = gB M q) : cE G cy ad M' q = cE G cy ad M q := by
  unfold cE
  rw [h4, h5, mkF_congr (G.ds (G.kd q)) 0 (fun j _ hj d => by
    have := hG (G.kd q)
    have hne : 128 * q + j ≠ 128 * p + k := by omega
    exact vl_far (h1 _ hne) (h2 _ hne) (h3 _ hne))]
theorem cE_obj {G : Lay} {cy : Nat → ClassId} {ad : Nat → Nat} {M : Mem} {p ci : Nat} (hk : isK G p ci) (hc : ci < 13) : cE G cy ad M p = .inr (ci, mkF ad M p 0 (G.ds ci)) := by
  unfold cE
  rw [if_pos (by rw [hk.1]; exact hc), hk.1]
theorem cE_int {G : Lay} {cy : Nat → ClassId} {ad : Nat → Nat} {M : Mem} {p : Nat} (hk : isK G p 13) : cE G cy ad M p = .inl (cy 0, G.ln p, .inl (gA M p)) := by
  unfold cE
  rw [if_neg (by rw [hk.1]; decide), if_pos hk.1]
theorem cE_long {G : Lay} {cy : Nat → ClassId} {ad : Nat → Nat} {M : Mem} {p : Nat} (hk : isK G p 14) : cE G cy ad M p = .inl (cy 1, G.ln p, .inr (.inl (gB M p))) := by
  unfold cE
  rw [if_neg (by rw [hk.1]; decide), if_neg (by rw [hk.1]; decide), if_pos hk.1]
theorem cE_bool {G : Lay} {cy : Nat → ClassId} {ad : Nat → Nat} {M : Mem} {p : Nat} (hk : isK G p 15) : cE G cy ad M p = .inl (cy 2, G.ln p, .inl (gA M p)) := by
  unfold cE
  rw [if_neg (by rw [hk.1]; decide), if_neg (by rw [hk.1]; decide), if_neg (by rw [hk.1]; decide), if_pos hk.1]
theorem cE_grid {G : Lay} {cy : Nat → ClassId} {ad : Nat → Nat} {M : Mem} {p : Nat} (hk : isK G p 16) : cE G cy ad M p = .inl (cy 3, G.ln p, .inr (.inr (.inr (.inr (fun i => some (ad (G.ob p + i))))))) := by
  unfold cE
  rw [if_neg (by rw [hk.1]; decide), if_neg (by rw [hk.1]; decide), if_neg (by rw [hk.1]; decide), if_neg (by rw [hk.1]; decide)]
theorem wl_sI {G : Lay} (hG : LOK G) {cy : Nat → ClassId} {ad : Nat → Nat} {M : Mem} {p k ci : Nat} {v : Int32} (hk : isK G p ci) (hc : ci < 13) (hd : (G.ds ci)[k]? = some 0) : (wl G cy ad M).set p (ad p, .inr (ci, (mkF ad M p 0 (G.ds ci)).set k (.int v))) = wl G cy ad (sI M (128 * p + k) v) := by
  have hk1 : k < 128 := by
    have := (List.getElem?_eq_some_iff.mp hd).1
    have := hG ci
    omega
  refine wl_set ?_ (fun q hq => cE_far hG hk1 hq (fun j hj => by rw [gI_sI, if_neg hj]) (fun _ _ => rfl) (fun _ _ => rfl) rfl rfl)
  rw [cE_obj hk hc]
  have h := mkF_set (ad := ad) (M := M) (M' := sI M (128 * p + k) v) (p := p) (i := k) (d := 0) (v := .int v) (by show Value.int _ = _; rw [gI_sI, if_pos rfl]) (fun j hj d => vl_far (by rw [gI_sI, if_neg (by omega)]) rfl rfl) (G.ds ci) 0 (Nat.zero_le k) hd
  rw [Nat.sub_zero] at h
  rw [h]
theorem wl_sL {G : Lay} (hG : LOK G) {cy : Nat → ClassId} {ad : Nat → Nat} {M : Mem} {p k ci : Nat} {v : Int64} (hk : isK G p ci) (hc : ci < 13) (hd : (G.ds ci)[k]? = some 1) : (wl G cy ad M).set p (ad p, .inr (ci, (mkF ad M p 0 (G.ds ci)).set k (.long v))) = wl G cy ad (sL M (128 * p + k) v) := by
  have hk1 : k < 128 := by
    have := (List.getElem?_eq_some_iff.mp hd).1
    have := hG ci
    omega
  refine wl_set ?_ (fun q hq => cE_far hG hk1 hq (fun _ _ => rfl) (fun j hj => by rw [gL_sL, if_neg hj]) (fun _ _ => rfl) rfl rfl)
  rw [cE_obj hk hc]
  have h := mkF_set (ad := ad) (M := M) (M' := sL M (128 * p + k) v) (p := p) (i := k) (d := 1) (v := .long v) (by show Value.long _ = _; rw [gL_sL, if_pos rfl]) (fun j hj d => vl_far rfl (by rw [gL_sL, if_neg (by omega)]) rfl) (G.ds ci) 0 (Nat.zero_le k) hd
  rw [Nat.sub_zero] at h
  rw [h]
theorem wl_sR {G : Lay} (hG : LOK G) {cy : Nat → ClassId} {ad : Nat → Nat} {M : Mem} {p k ci v : Nat} (hk : isK G p ci) (hc : ci < 13) (hd : (G.ds ci)[k]? = some 2) : (wl G cy ad M).set p (ad p, .inr (ci, (mkF ad M p 0 (G.ds ci)).set k (.ref (ad v)))) = wl G cy ad (sR M (128 * p + k) v) := by
  have hk1 : k < 128 := by
    have := (List.getElem?_eq_some_iff.mp hd).1
    have := hG ci
    omega
  refine wl_set ?_ (fun q hq => cE_far hG hk1 hq (fun _ _ => rfl) (fun _ _ => rfl) (fun j hj => by rw [gR_sR, if_neg hj]) rfl rfl)
  rw [cE_obj hk hc]
  have h := mkF_set (ad := ad) (M := M) (M' := sR M (128 * p + k) v) (p := p) (i := k) (d := 2) (v := .ref (ad v)) (by show Value.ref (ad _) = _; rw [gR_sR, if_pos rfl]) (fun j hj d => vl_far rfl rfl (by rw [gR_sR, if_neg (by omega)])) (G.ds ci) 0 (Nat.zero_le k) hd
  rw [Nat.sub_zero] at h
  rw [h]
theorem cE_same {G : Lay} {cy : Nat → ClassId} {ad : Nat → Nat} {M M' : Mem} {q : Nat} (h1 : gI M' = gI M) (h2 : gL M' = gL M) (h3 : gR M' = gR M) (h4 : gA M' q = gA M q) (h5 : gB M' q = gB M q) : cE G cy ad M' q = cE G cy ad M q := by
  unfold cE
  rw [h4, h5, mkF_congr (ad := ad) (M := M) (M' := M') (p := q) (G.ds (G.kd q)) 0 (fun j _ _ d => vl_far (by rw [h1]) (by rw [h2]) (by rw [h3]))]
theorem gA_sA_at {M : Mem} {a i : Nat} {v : Int32} : gA (sA M a i v) a = upd (gA M a) i v := by
  funext j
  rw [gA_sA, if_pos rfl]
  rfl
theorem gA_sA_ne {M : Mem} {a i q : Nat} {v : Int32} (h : q ≠ a) : gA (sA M a i v) q = gA M q := by
  funext j
  rw [gA_sA, if_neg h]
theorem gB_sB_at {M : Mem} {a i : Nat} {v : Int64} : gB (sB M a i v) a = vp_updL (gB M a) i v := by
  funext j
  rw [gB_sB, if_pos rfl]
  rfl
theorem gB_sB_ne {M : Mem} {a i q : Nat} {v : Int64} (h : q ≠ a) : gB (sB M a i v) q = gB M q := by
  funext j
  rw [gB_sB, if_neg h]
theorem wl_sA {G : Lay} {cy : Nat → ClassId} {ad : Nat → Nat} {M : Mem} {p i : Nat} {v : Int32} (hk : isK G p 13) : (wl G cy ad M).set p (ad p, .inl (cy 0, G.ln p, .inl (upd (gA M p) i v))) = wl G cy ad (sA M p i v) :=
  wl_set (by rw [cE_int hk, gA_sA_at]) (fun q hq => cE_same rfl rfl rfl (gA_sA_ne hq) rfl)
theorem wl_sZ {G : Lay} {cy : Nat → ClassId} {ad : Nat → Nat} {M : Mem} {p i : Nat} {v : Int32} (hk : isK G p 15) : (wl G cy ad M).set p (ad p, .inl (cy 2, G.ln p, .inl (upd (gA M p) i v))) = wl G cy ad (sA M p i v) :=
  wl_set (by rw [cE_bool hk, gA_sA_at]) (fun q hq => cE_same rfl rfl rfl (gA_sA_ne hq) rfl)
theorem wl_sB {G : Lay} {cy : Nat → ClassId} {ad : Nat → Nat} {M : Mem} {p i : Nat} {v : Int64} (hk : isK G p 14) : (wl G cy ad M).set p (ad p, .inl (cy 1, G.ln p, .inr (.inl (vp_updL (gB M p) i v)))) = wl G cy ad (sB M p i v) :=
  wl_set (by rw [cE_long hk, gB_sB_at]) (fun q hq => cE_same rfl rfl rfl rfl (gB_sB_ne hq))
theorem wl_sF {G : Lay} {cy : Nat → ClassId} {ad : Nat → Nat} {M : Mem} {p : Nat} {f : Nat → Int32} (hk : isK G p 13) : (wl G cy ad M).set p (ad p, .inl (cy 0, G.ln p, .inl f)) = wl G cy ad (sF M p f) :=
  wl_set (by rw [cE_int hk]; congr; funext j; rw [gA_sF, if_pos rfl]) (fun q hq => cE_same rfl rfl rfl (by funext j; rw [gA_sF, if_neg hq]) rfl)
/-- the cells of a side -/
def xA (G : Lay) (ad : Nat → Nat) : Nat → Prop := fun q => ∃ k, k < G.nn ∧ q = ad k
def Inj (G : Lay) (ad : Nat → Nat) : Prop := ∀ i j, i < G.nn → j < G.nn → ad i = ad j → i = j
theorem wl_at {G : Lay} {cy : Nat → ClassId} {ad : Nat → Nat} {M : Mem} {k : Nat} {q : Nat × va_E} (h : (wl G cy ad M)[k]? = some q) : k < G.nn ∧ q = (ad k, cE G cy ad M k) := by
  have hk : k < G.nn := by
    have := (List.getElem?_eq_some_iff.mp h).1
    unfold wl at this
    rwa [List.length_map, List.length_range] at this
  rw [wl_get hk] at h
  exact ⟨hk, (Option.some.inj h).symm⟩
theorem wl_D {G : Lay} {cy : Nat → ClassId} {ad : Nat → Nat} (hI : Inj G ad) (M : Mem) : va_D (xA G ad) (wl G cy ad M) := by
  refine ⟨fun i j p q hi hj h => ?_, fun k q hk => ?_⟩
  · obtain ⟨h1, rfl⟩ := wl_at hi
    obtain ⟨h2, rfl⟩ := wl_at hj
    exact hI i j h1 h2 h
  · obtain ⟨h1, rfl⟩ := wl_at hk
    exact ⟨k, h1, rfl⟩
/-- the world of a side: its cells hold M -/
def WD (G : Lay) (D : va_G) (cy : Nat → ClassId) (ad : Nat → Nat) (M : Mem) (H : Heap) : Prop := va_P D vwCl (wl G cy ad M) H ∧ WFm G M
def WT (G : Lay) (D : va_G) (cy : Nat → ClassId) (ad : Nat → Nat) (M : Mem) (t : State) : Prop := WD G D cy ad M t.heap ∧ va_K D vwCl (tyl cy) t
/-- the room of a method at depth d -/
abbrev rmL (d : Nat) : Room := { frames := d, cells := 0, slots := 0, locals := 64 * d }
/-- what holds all along a method's body -/
def OKc (p : Program) (R : Room) (s : State) (m : MethodId) (args : Array Value) (meth : Method) (c : Code) (G : Lay) (D : va_G) (cy : Nat → ClassId) (ad : Nat → Nat) (cc : ByteArray) (own : String) (nL d : Nat) (rt : Option FieldType) : Prop :=
  p.tables.exec = Jvm.exec ∧ c.code = cc ∧ c.maxLocals = nL ∧ s.vm.findClass own = some m.cls ∧ (∀ w ∈ lw_g, w.before args s = true) ∧ va_K D vwCl (tyl cy) s ∧ Inj G ad ∧ meth.locks = false ∧ meth.sig.returnType = rt ∧ R = rmL d ∧ LOK G
/-- a block: from pc with these locals, this stack and this memory the method ends as o says -/
def BL (p : Program) (l : Launch) (e : Env) (R : Room) (s : State) (m : MethodId) (args : Array Value) (below : List Frame) (meth : Method) (c : Code) (G : Lay) (D : va_G) (cy : Nat → ClassId) (ad : Nat → Nat) (nL : Nat) {ρ : Type} (Qf : ρ → Array Value → State → Outcome → State → Prop) (pc : Nat) (lv : List (Nat × Value)) (st : List Value) (M : Mem) (o : Option ρ) : Prop :=
  ∀ r, o = some r → ∀ (H : Heap) (locs : List Loc) (ls : Array Slot), WD G D cy ad M H → va_S (xA G ad) s.heap H locs → lv_has ls nL lv → W p l e R s m args below meth c H locs 0 0 (MQ below (Qf r) args s 0 0 (xA G ad)) (F0 m pc ls st)
def QI (G : Lay) (D : va_G) (cy : Nat → ClassId) (ad : Nat → Nat) (r : Int32 × Mem) : Array Value → State → Outcome → State → Prop := va_Qi (fun v u => (v, u) = r) (WT G D cy ad) (xA G ad)
def QL (G : Lay) (D : va_G) (cy : Nat → ClassId) (ad : Nat → Nat) (r : Int64 × Mem) : Array Value → State → Outcome → State → Prop := va_Ql (fun v u => (v, u) = r) (WT G D cy ad) (xA G ad)
def QV (G : Lay) (D : va_G) (cy : Nat → ClassId) (ad : Nat → Nat) (r : Mem) : Array Value → State → Outcome → State → Prop := va_Qv (fun u => u = r) (WT G D cy ad) (xA G ad)
/-- a method's contract, by its function's value -/
def CT (l : Launch) (G : Lay) (D : va_G) (cy : Nat → ClassId) (ad : Nat → Nat) (y : MethodName) (bytes : ByteArray) (maxL : Nat) (rt : Option FieldType) (d : Nat) {ρ : Type} (Qf : ρ → Array Value → State → Outcome → State → Prop) (av : List Value) (M : Mem) (o : Option ρ) : Prop :=
  ∀ r, o = some r → Met l y (.code y bytes maxL rt :: lw_g) (rmL d) (va_Pc av (WT G D cy ad M)) (Qf r) 0 0 (xA G ad)
