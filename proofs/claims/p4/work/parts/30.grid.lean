/-! new int[N][K]: the outer array at the heap's end, its rows right behind it -/
/-- the class of int[][], over that of int[] -/
def AOI (cy : Nat → ClassId) (U : State) : Prop := (∃ k : Class, U.vm.classes[cy 3]? = some k ∧ k.kind = .array (cy 0) (.array .int)) ∧ ∃ (k : Class) (b : ClassId), U.vm.classes[cy 0]? = some k ∧ k.kind = .array b .int
theorem AOI.moved {cy : Nat → ClassId} {u U : State} (hvm : u.vm.Alike U.vm) (h : AOI cy u) : AOI cy U := by
  obtain ⟨⟨k, h1, h2⟩, k2, b, h3, h4⟩ := h
  obtain ⟨k', hk', he⟩ := hvm.2.2 _ _ h1
  obtain ⟨k2', hk2', he2⟩ := hvm.2.2 _ _ h3
  exact ⟨⟨k', hk', by rw [he]; exact h2⟩, k2', b, hk2', by rw [he2]; exact h4⟩
def ga_row (c0 : ClassId) (K : Nat) : Cell := { cls := c0, slots := Array.replicate K (.int 0), vm := .none }
def ga_out (c3 : ClassId) (N h : Nat) : Nat → Cell
  | 0 => { cls := c3, slots := Array.replicate N .null, vm := .none }
  | i + 1 => (ga_out c3 N h i).setSlot i (.ref (h + 1 + i))
def ga_st (s : State) (c3 c0 : ClassId) (N K : Nat) : Nat → State
  | 0 => s.pushCell (ga_out c3 N s.heap.size 0)
  | i + 1 => ((ga_st s c3 c0 N K i).pushCell (ga_row c0 K)).setCell s.heap.size (ga_out c3 N s.heap.size (i + 1))
theorem ga_out_is (c3 : ClassId) (N h : Nat) : ∀ i, ga_out c3 N h i = arrV c3 N (fun j => va_rf (if j < i then some (h + 1 + j) else none))
  | 0 => by
    show ({ cls := c3, slots := Array.replicate N .null, vm := .none } : Cell) = _
    rw [arrV_new]
    refine congrArg (arrV c3 N) (funext fun j => ?_)
    simp [va_rf]
  | i + 1 => by
    show (ga_out c3 N h i).setSlot i (.ref (h + 1 + i)) = _
    rw [ga_out_is c3 N h i, arrV_store]
    refine congrArg (arrV c3 N) (funext fun j => ?_)
    by_cases e : j = i
    · subst e; simp [updV, va_rf]
    · by_cases hj : j < i
      · simp [updV, e, hj, Nat.lt_succ_of_lt hj]
      · simp [updV, e, hj, show ¬ j < i + 1 by omega]
theorem ga_out_shape (c3 : ClassId) (N h i : Nat) : (ga_out c3 N h i).cls = c3 ∧ (ga_out c3 N h i).vm = .none ∧ (ga_out c3 N h i).slots.size = N := by
  rw [ga_out_is]
  exact ⟨rfl, rfl, arrV_size _ _ _⟩
theorem ga_facts (s : State) (c3 c0 : ClassId) (N K : Nat) : ∀ i, (ga_st s c3 c0 N K i).heap.size = s.heap.size + 1 + i ∧ (ga_st s c3 c0 N K i).heap[s.heap.size]? = some (ga_out c3 N s.heap.size i) ∧ (ga_st s c3 c0 N K i).vm = s.vm ∧ (ga_st s c3 c0 N K i).slotsUsed = s.slotsUsed + N + i * K
  | 0 => ⟨by simp [ga_st], by simp [ga_st], rfl, by simp [ga_st, ga_out]⟩
  | i + 1 => by
    obtain ⟨h1, h2, h3, h4⟩ := ga_facts s c3 c0 N K i
    have hlt : s.heap.size < (ga_st s c3 c0 N K i).heap.size := by omega
    have hp : ((ga_st s c3 c0 N K i).pushCell (ga_row c0 K)).heap[s.heap.size]? = some (ga_out c3 N s.heap.size i) := by
      rw [State.heap_pushCell_of_lt (h := hlt)]; exact h2
    refine ⟨?_, State.heap_setCell_self hp, by simp [ga_st, h3], ?_⟩
    · simp [ga_st, State.setCell, h1]; omega
    · simp [ga_st, h4, ga_row, Nat.succ_mul]; omega
theorem ga_top (s : State) (f : JFrame) (c3 c0 : ClassId) (N K : Nat) : ∀ i, ga_st (s.setTop f) c3 c0 N K i = (ga_st s c3 c0 N K i).setTop f
  | 0 => rfl
  | i + 1 => by simp only [ga_st, ga_top s f c3 c0 N K i, State.heap_setTop, State.pushCell_setTop, State.setCell_setTop]
theorem ga_old (s : State) (c3 c0 : ClassId) (N K : Nat) {a : Addr} (ha : a < s.heap.size) : ∀ i, (ga_st s c3 c0 N K i).heap[a]? = s.heap[a]?
  | 0 => State.heap_pushCell_of_lt _ _ ha
  | i + 1 => by
    have h1 := (ga_facts s c3 c0 N K i).1
    have hlt : a < (ga_st s c3 c0 N K i).heap.size := Nat.lt_of_lt_of_le ha (by rw [h1]; omega)
    show (((ga_st s c3 c0 N K i).pushCell (ga_row c0 K)).setCell s.heap.size _).heap[a]? = _
    rw [State.heap_setCell_other (Nat.ne_of_gt ha), State.heap_pushCell_of_lt (h := hlt)]
    exact ga_old s c3 c0 N K ha i
theorem ga_rows (s : State) (c3 c0 : ClassId) (N K : Nat) : ∀ i j, j < i → (ga_st s c3 c0 N K i).heap[s.heap.size + 1 + j]? = some (ga_row c0 K)
  | 0, _, h => absurd h (Nat.not_lt_zero _)
  | i + 1, j, h => by
    have h1 := (ga_facts s c3 c0 N K i).1
    show (((ga_st s c3 c0 N K i).pushCell (ga_row c0 K)).setCell s.heap.size _).heap[s.heap.size + 1 + j]? = _
    rw [State.heap_setCell_other (show s.heap.size ≠ s.heap.size + 1 + j by omega)]
    rcases Nat.lt_or_ge j i with hj | hj
    · have hlt : s.heap.size + 1 + j < (ga_st s c3 c0 N K i).heap.size := by omega
      rw [State.heap_pushCell_of_lt (h := hlt)]
      exact ga_rows s c3 c0 N K i j hj
    · have e : s.heap.size + 1 + j = (ga_st s c3 c0 N K i).heap.size := by omega
      rw [e]
      exact State.heap_pushCell_size _ _
section GRIDWP
variable {E : CtlPost} {e : Env} {d : Bool} {acts : List Action} {s : State}
/-- the model's own making of one array -/
theorem ga_one {c comp : ClassId} {k : Class} {type : FieldType} {len : Nat} {init : Value} (hk : s.vm.classes[c]? = some k) (hkind : k.kind = .array comp type) (hlim : ¬ len > e.platform.arrayLengthLimit) (hheap : ¬ len * componentBytes type > e.platform.maxHeapBytes) (hfit : fits type init = true) (hdef : init.isDefault = true) {Q : Addr → Pre} (h1 : s.heap.size < e.platform.maxCells) (h2 : s.slotsUsed + len ≤ e.platform.maxSlots) (hq : Q s.heap.size d acts (s.pushCell { cls := c, slots := Array.replicate len init, vm := .none })) : wp (Jvm.newArray c len init) Q E e d acts s := by
  have hslot : ∀ i v, (Array.replicate len init)[i]? = some v → s.fitsSlot c .none i v = true := fun i v hv => by
    rw [Array.getElem?_replicate] at hv
    split at hv
    · cases hv; simp [State.fitsSlot, State.slotType?, hk, hkind, hfit]
    · cases hv
  have hacts : allocActs (Array.replicate len init) s.heap.size acts = acts := by
    unfold allocActs
    rw [if_pos (by rw [Array.all_replicate]; split <;> simp [hdef])]
  simp only [Jvm.newArray, Jvm.arrayFits, wp_bind', W.ask, W.ite, hlim, if_false, wp_pure', W.theClass, hk, hkind, hheap, W.alloc, W.stop, Option.some.injEq, exists_eq_left', Array.size_replicate, hacts]
  rw [if_neg (by omega)]
  exact ⟨h1, h2, hslot, hq⟩
/-- int[N][K], as the model makes it -/
theorem ga_make {c3 c0 b : ClassId} {k3 k0 : Class} {n k : Int32} (h3 : s.vm.classes[c3]? = some k3) (hk3 : k3.kind = .array c0 (.array .int)) (h0 : s.vm.classes[c0]? = some k0) (hk0 : k0.kind = .array b .int) (hn : ¬ n < 0) (hk : ¬ k < 0)
    (hl1 : ¬ n.toNatClampNeg > e.platform.arrayLengthLimit) (hh1 : ¬ n.toNatClampNeg * componentBytes (.array .int) > e.platform.maxHeapBytes) (hl2 : ¬ k.toNatClampNeg > e.platform.arrayLengthLimit) (hh2 : ¬ k.toNatClampNeg * componentBytes .int > e.platform.maxHeapBytes)
    (hc : s.heap.size + 1 + n.toNatClampNeg ≤ e.platform.maxCells) (hs : s.slotsUsed + n.toNatClampNeg + n.toNatClampNeg * k.toNatClampNeg ≤ e.platform.maxSlots) {Q : Addr → Pre} (hq : ∀ d' acts', Q s.heap.size d' acts' (ga_st s c3 c0 n.toNatClampNeg k.toNatClampNeg n.toNatClampNeg)) : wp (multianewarray.make c3 [n, k]) Q E e d acts s := by
  have hfind : ([k].find? (· < 0)) = none := by simp [hk]
  rw [multianewarray.make]
  simp only [wp_bind', W.ite, hn, if_false, wp_pure', W.theClass, h3, hk3, Option.some.injEq, exists_eq_left']
  refine ga_one h3 hk3 hl1 hh1 rfl rfl (by omega) (by have := Nat.zero_le (n.toNatClampNeg * k.toNatClampNeg); omega) ?_
  simp only [hfind]
  rw [ite_self, wp_bind', Std.Legacy.Range.forIn_eq_forIn_range']
  have hsz : ([:n.toNatClampNeg] : Std.Legacy.Range).size = n.toNatClampNeg := by simp [Std.Legacy.Range.size]
  rw [hsz]
  show wp (forIn (List.range' 0 n.toNatClampNeg 1) PUnit.unit _) _ E e d acts _
  refine wp_forIn_inv (fun rest s' => ∃ i, i ≤ n.toNatClampNeg ∧ rest = List.range' i (n.toNatClampNeg - i) ∧ s' = ga_st s c3 c0 n.toNatClampNeg k.toNatClampNeg i) _ _ ⟨0, Nat.zero_le _, rfl, rfl⟩ ?_ ?_
  · rintro x rest s' d' acts' Q' ⟨i, hi, hl, rfl⟩ hnext
    have hlt : i < n.toNatClampNeg := by
      rcases Nat.lt_or_ge i n.toNatClampNeg with h | h
      · exact h
      · rw [show n.toNatClampNeg - i = 0 by omega] at hl; simp at hl
    rw [show n.toNatClampNeg - i = (n.toNatClampNeg - (i + 1)) + 1 by omega, List.range'_succ] at hl
    obtain ⟨rfl, hrest⟩ := List.cons.inj hl
    obtain ⟨f1, f2, f3, f4⟩ := ga_facts s c3 c0 n.toNatClampNeg k.toNatClampNeg x
    obtain ⟨o1, o2, o3⟩ := ga_out_shape c3 n.toNatClampNeg s.heap.size x
    have hmul : x * k.toNatClampNeg + k.toNatClampNeg ≤ n.toNatClampNeg * k.toNatClampNeg := by
      have := Nat.mul_le_mul_right k.toNatClampNeg (show x + 1 ≤ n.toNatClampNeg from hlt)
      rw [Nat.succ_mul] at this; exact this
    simp only [wp_bind']
    rw [multianewarray.make]
    simp only [wp_bind', W.ite, hk, if_false, wp_pure', W.theClass, f3, h0, hk0, Option.some.injEq, exists_eq_left']
    refine ga_one (by rw [f3]; exact h0) hk0 hl2 hh2 rfl rfl (by rw [f1]; omega) (by rw [f4]; omega) ?_
    have hlt0 : s.heap.size < (ga_st s c3 c0 n.toNatClampNeg k.toNatClampNeg x).heap.size := by rw [f1]; omega
    simp only [wp_bind', W.writeLoc, wp_pure']
    refine ⟨ga_out c3 n.toNatClampNeg s.heap.size x, by rw [State.heap_pushCell_of_lt (h := hlt0)]; exact f2, by rw [o2]; simp, by rw [o3]; exact hlt, ?_, hnext _ _ _ ⟨x + 1, hlt, hrest, ?_⟩⟩
    · rw [o1, o2]
      simp [State.fitsSlot, State.slotType?, f3, h3, hk3]
      rfl
    · rw [f1]; rfl
  · rintro s' d' acts' ⟨i, hi, hl, rfl⟩
    have hiN : i = n.toNatClampNeg := by
      rcases Nat.lt_or_ge i n.toNatClampNeg with h | h
      · rw [show n.toNatClampNeg - i = (n.toNatClampNeg - (i + 1)) + 1 by omega, List.range'_succ] at hl; cases hl
      · omega
    subst hiN
    simp only [wp_pure']
    exact hq _ _
end GRIDWP
section GRIDW
variable {p : Program} {l : Launch} {e : Env} {R : Room} {s : State} {m : MethodId} {args : Array Value} {below : List Frame} {meth : Method} {c : Code} {T : State} {locs : List Loc} {cells slots : Nat}
theorem ga_stand (X : Stand p l e R s m args below meth c T locs cells slots) (c3 c0 : ClassId) (N K : Nat) : ∀ i, ∃ J : List Loc, (∀ x ∈ J, x.base = T.heap.size) ∧ Stand p l e R s m args below meth c (ga_st T c3 c0 N K i) (locs ++ J) (cells + 1 + i) (slots + N + i * K)
  | 0 => by
    have h := X.pushed (ga_out c3 N T.heap.size 0)
    rw [(ga_out_shape c3 N T.heap.size 0).2.2] at h
    exact ⟨[], fun _ h => absurd h List.not_mem_nil, by simpa [ga_st] using h⟩
  | i + 1 => by
    obtain ⟨J, hJ, Xi⟩ := ga_stand X c3 c0 N K i
    obtain ⟨f1, f2, f3, f4⟩ := ga_facts T c3 c0 N K i
    have hlt : T.heap.size < (ga_st T c3 c0 N K i).heap.size := by omega
    have hcell : ((ga_st T c3 c0 N K i).pushCell (ga_row c0 K)).heap[T.heap.size]? = some (ga_out c3 N T.heap.size i) := by rw [State.heap_pushCell_of_lt (h := hlt)]; exact f2
    have h := (Xi.pushed (ga_row c0 K)).stored hcell i (.ref (T.heap.size + 1 + i))
    rw [show (ga_row c0 K).slots.size = K by simp [ga_row]] at h
    refine ⟨J ++ [⟨T.heap.size, i⟩], fun x hx => ?_, ?_⟩
    · rcases List.mem_append.mp hx with q | q
      · exact hJ x q
      · rw [List.mem_singleton.mp q]
    · rw [← List.append_assoc, show slots + N + (i + 1) * K = slots + N + i * K + K by rw [Nat.succ_mul]; omega]
      exact h
theorem ga_step (X : Stand p l e R s m args below meth c T locs cells slots) (hexec : p.tables.exec = Jvm.exec) {cy : Nat → ClassId} {own : String} {index : Nat} (hown : s.vm.findClass own = some m.cls) (hclink : (Cond.classLink own index "[[I").before args s = true) (hname : s.vm.findClass "[[I" = some (cy 3)) (hA : AOI cy s)
    {g : JFrame} (hg : g.method = m) (hdg : decode c.code g.pc = .ok (.multianewarray index 2, 4)) {n k : Int32} {rest : List Value} (hstack : g.stack = .int k :: .int n :: rest) (hn : ¬ n < 0) (hk : ¬ k < 0) (hb1 : n.toNatClampNeg ≤ 1000) (hb2 : k.toNatClampNeg ≤ 1000)
    (hcells : cells + (1 + n.toNatClampNeg) ≤ R.cells) (hslots : slots + (n.toNatClampNeg + n.toNatClampNeg * k.toNatClampNeg) ≤ R.slots) :
    ∃ (vm₁ : Vm), Stand p l e R s m args below meth c (ga_st (T.setVm vm₁) (cy 3) (cy 0) n.toNatClampNeg k.toNatClampNeg n.toNatClampNeg) locs (cells + 1 + n.toNatClampNeg) (slots + n.toNatClampNeg + n.toNatClampNeg * k.toNatClampNeg) ∧
      ∀ target, Steps p.tables e below ((ga_st (T.setVm vm₁) (cy 3) (cy 0) n.toNatClampNeg k.toNatClampNeg n.toNatClampNeg).setTop { g with pc := g.pc + 4, stack := .ref T.heap.size :: rest }) target → Steps p.tables e below (T.setTop g) target := by
  subst hg
  have hpl : e.platform.magicAccessors = ({} : Platform).magicAccessors := by rw [X.admits.platform]
  obtain ⟨⟨k3, h3, hk3⟩, k0, b, h0, hk0⟩ := hA
  obtain ⟨c9, hfc9, hcl⟩ := Cond.classLink_spec hown hclink e.platform hpl
  cases hname.symm.trans hfc9
  obtain ⟨hg₁, hwarm₁, hready₁⟩ := State.classEntry (e := e) X.warmed hcl
  generalize T.vm.noted g.method.cls index (.cls (cy 3)) = vm₁ at hg₁ hwarm₁ hready₁
  have hal : s.vm.Alike vm₁ := hwarm₁.alike
  obtain ⟨k3', h3', e3⟩ := hal.2.2 _ _ h3
  obtain ⟨k0', h0', e0⟩ := hal.2.2 _ _ h0
  have X₁ := X.noted hwarm₁
  obtain ⟨hr1, hr2⟩ := X.roomAbove hcells hslots
  obtain ⟨J, hJ, XF⟩ := ga_stand X₁ (cy 3) (cy 0) n.toNatClampNeg k.toNatClampNeg n.toNatClampNeg
  have XD : Stand p l e R s g.method args below meth c (ga_st (T.setVm vm₁) (cy 3) (cy 0) n.toNatClampNeg k.toNatClampNeg n.toNatClampNeg) locs (cells + 1 + n.toNatClampNeg) (slots + n.toNatClampNeg + n.toNatClampNeg * k.toNatClampNeg) :=
    ⟨XF.admits, XF.cas, XF.clock, XF.frames, XF.room, XF.hears, XF.method, XF.code, XF.here, XF.tail, XF.warmed, XF.limits, XF.bytes, XF.same.drop_fresh (by
      intro x hx
      rw [hJ x hx]
      exact X.same.2.1)⟩
  refine ⟨vm₁, XD, fun target hrest => ?_⟩
  have hl1 : ¬ n.toNatClampNeg > e.platform.arrayLengthLimit := by rw [Launch.admits_arrayLengthLimit X.admits]; omega
  have hh1 : ¬ n.toNatClampNeg * componentBytes (.array .int) > e.platform.maxHeapBytes := by rw [Launch.admits_maxHeapBytes X.admits]; show ¬ n.toNatClampNeg * 4 > 536870912; omega
  have hl2 : ¬ k.toNatClampNeg > e.platform.arrayLengthLimit := by rw [Launch.admits_arrayLengthLimit X.admits]; omega
  have hh2 : ¬ k.toNatClampNeg * componentBytes .int > e.platform.maxHeapBytes := by rw [Launch.admits_maxHeapBytes X.admits]; show ¬ k.toNatClampNeg * 4 > 536870912; omega
  jvm_step X.here [hexec, hdg]
  simp only [multianewarray.sem, wp_bind', W.resolveClassAt_links (State.method?_setTop g X.here.top) hg₁]
  rw [W.popN, if_neg (by decide)]
  refine ⟨g, State.topJava?_setTop' (s := T.setVm vm₁) g X.here.top, [.int n, .int k], rest, rfl, hstack, ?_⟩
  simp only [List.mapM_cons, List.mapM_nil, wp_bind', wp_pure']
  refine ga_make (k3 := k3') (k0 := k0') (c0 := cy 0) (b := b) h3' (by rw [e3]; exact hk3) h0' (by rw [e0]; exact hk0) hn hk hl1 hh1 hl2 hh2 (by show T.heap.size + 1 + _ ≤ _; omega) (by show T.slotsUsed + _ + _ ≤ _; omega) (fun d' acts' => ?_)
  have eS : ((T.setTop g).setVm vm₁).setTop { g with stack := rest } = (T.setVm vm₁).setTop { g with stack := rest } := by
    show ((T.setVm vm₁).setTop g).setTop _ = _
    rw [State.setTop_setTop]
  rw [eS, ga_top]
  simp only [wp_bind', W.mark, W.pushRef, State.topJava?_setTop' _ XF.here.top, Option.some.injEq, exists_eq_left', State.setTop_setTop, State.heap_setTop]
  intro acts
  simp [jvm, XF.here.top]
  exact hrest
end GRIDW
