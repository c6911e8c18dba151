/-- the words of entries that reach a nest mate's constructor -/
def nestW : List Cond := [Cond.methodLinkNest "PalmHours" 11 ⟨"PalmHours$Tape", "<init>", "()V"⟩ "PalmHours", Cond.methodLinkNest "PalmHours" 18 ⟨"PalmHours$Town", "<init>", "()V"⟩ "PalmHours", Cond.methodLinkNest "PalmHours$Town" 66 ⟨"PalmHours$Formula", "<init>", "()V"⟩ "PalmHours", Cond.methodLinkNest "PalmHours" 53 ⟨"PalmHours$Past", "<init>", "()V"⟩ "PalmHours", Cond.methodLinkNest "PalmHours" 60 ⟨"PalmHours$Walks", "<init>", "()V"⟩ "PalmHours", Cond.methodLinkNest "PalmHours" 67 ⟨"PalmHours$Seen", "<init>", "()V"⟩ "PalmHours"]
theorem nestW_M : ∀ w ∈ nestW, ∃ (a : String) (i : Nat) (x : MethodName) (h : String), w = .methodLinkNest a i x h := by
  intro w hw
  simp only [nestW, List.mem_cons, List.not_mem_nil, or_false] at hw
  rcases hw with rfl | rfl | rfl | rfl | rfl | rfl <;> exact ⟨_, _, _, _, rfl⟩
def owT : String := "thing weigh lasts corner road to steps palm has doing at hour says gone pass held minute empty if or and not all min max "
def owB : List Int32 := [116, 104, 105, 110, 103, 32, 119, 101, 105, 103, 104, 32, 108, 97, 115, 116, 115, 32, 99, 111, 114, 110, 101, 114, 32, 114, 111, 97, 100, 32, 116, 111, 32, 115, 116, 101, 112, 115, 32, 112, 97, 108, 109, 32, 104, 97, 115, 32, 100, 111, 105, 110, 103, 32, 97, 116, 32, 104, 111, 117, 114, 32, 115, 97, 121, 115, 32, 103, 111, 110, 101, 32, 112, 97, 115, 115, 32, 104, 101, 108, 100, 32, 109, 105, 110, 117, 116, 101, 32, 101, 109, 112, 116, 121, 32, 105, 102, 32, 111, 114, 32, 97, 110, 100, 32, 110, 111, 116, 32, 97, 108, 108, 32, 109, 105, 110, 32, 109, 97, 120, 32]
/-- what lies below B0 and stays: the class of int[][], the nest mates' words, the String constant ka with its bytes va, two statics -/
def EX (cy : Nat → ClassId) (B0 ka va : Nat) (U : State) : Prop := AOI cy U ∧ (∀ w ∈ nestW, va_Nw w U) ∧ vk_R "PalmHours$Tokens" 41 owT ka U ∧ vk_S 1 [121] [owB] (fun _ => ka) (fun _ => va) (fun q => B0 ≤ q) U U.heap ∧ va_Z "java/lang/String" "COMPACT_STRINGS" "Z" (.int 1) (fun q => B0 ≤ q) U U.heap ∧ va_Zq "jdk/internal/util/Preconditions" "SIOOBE_FORMATTER" "Ljava/util/function/BiFunction;" (fun q => B0 ≤ q) U U.heap
theorem EX.st {cy : Nat → ClassId} {B0 ka va : Nat} {s U : State} (hW : s.WarmedH U.vm) (hq : ∀ a : Nat, a < s.heap.size → ¬ B0 ≤ a → U.heap[a]? = s.heap[a]?) (h : EX cy B0 ka va s) : EX cy B0 ka va U := by
  obtain ⟨h1, h2, h3, h4, h5, h6⟩ := h
  refine ⟨h1.moved hW.alike, fun w hw => ?_, h3.warm hW, (h4.moved hW.alike).kept hq, (h5.moved hW.alike).kept hq, (h6.moved hW.alike).kept hq⟩
  obtain ⟨a, i, x, h, rfl⟩ := nestW_M w hw
  exact (h2 _ hw).warmM hW
theorem EX.call {cy : Nat → ClassId} {B0 ka va : Nat} {U : State} (g : JFrame) (mk : MethodId) (a : Array Value) (h : EX cy B0 ka va U) : EX cy B0 ka va (U.calling g mk a) := by
  obtain ⟨h1, h2, h3, h4, h5, h6⟩ := h
  refine ⟨h1.moved (u := U) (U := U.calling g mk a) (Vm.Alike.refl U.vm), fun w hw => ?_, h3.same (u := U) (U := U.calling g mk a) rfl, h4.moved (u := U) (U := U.calling g mk a) (Vm.Alike.refl U.vm), h5.moved (u := U) (U := U.calling g mk a) (Vm.Alike.refl U.vm), h6.moved (u := U) (U := U.calling g mk a) (Vm.Alike.refl U.vm)⟩
  obtain ⟨b, i, x, h, rfl⟩ := nestW_M w hw
  exact (h2 _ hw).same (u := U) (U := U.calling g mk a) rfl rfl
/-! CONSTRUCTORS: the world is an explicit list of cells; new ones come at its end -/
def OKd (p : Program) (R : Room) (s : State) (m : MethodId) (args : Array Value) (meth : Method) (c : Code) (D : va_G) (cy : Nat → ClassId) (B0 ka va : Nat) (A : Nat → Prop) (cc : ByteArray) (own : String) (nL : Nat) : Prop :=
  p.tables.exec = Jvm.exec ∧ c.code = cc ∧ c.maxLocals = nL ∧ s.vm.findClass own = some m.cls ∧ (∀ w ∈ lw_g, w.before args s = true) ∧ va_K D vwCl (tyl cy) s ∧ (∀ q, s.heap.size ≤ q → A q) ∧ meth.locks = false ∧ meth.sig.returnType = none ∧ meth.name = "<init>" ∧ EX cy B0 ka va s ∧ ∀ q, A q → B0 ≤ q
def BC (p : Program) (l : Launch) (e : Env) (R : Room) (s : State) (m : MethodId) (args : Array Value) (below : List Frame) (meth : Method) (c : Code) (D : va_G) (A : Nat → Prop) (nL : Nat) (Q : State → Prop) (pc : Nat) (lv : List (Nat × Value)) (st : List Value) (ws : va_W) (cells slots : Nat) : Prop :=
  ∀ (H : Heap) (locs : List Loc) (ls : Array Slot), va_P D vwCl ws H → va_D A ws → va_S A s.heap H locs → lv_has ls nL lv → W p l e R s m args below meth c H locs cells slots Q (F0 m pc ls st)
/-- a constructor's contract: the cells w0 become w1 u, where u names the new ones -/
def CC (l : Launch) (D : va_G) (cy : Nat → ClassId) (B0 ka va : Nat) (y : MethodName) (bytes : ByteArray) (maxL : Nat) (R : Room) (av : List Value) (w0 : va_W) (w1 : (Nat → Nat) → va_W) (mc ms : Nat) : Prop :=
  ∀ sz, Met l y (.code y bytes maxL none :: lw_g) R (va_Pc av (fun U => U.heap.size = sz ∧ va_P D vwCl w0 U.heap ∧ va_K D vwCl (tyl cy) U ∧ va_D (fun _ => True) w0 ∧ EX cy B0 ka va U ∧ ∀ q, va_A w0 sz q → B0 ≤ q)) (va_Qv (fun _ : Nat → Nat => True) (fun u t => va_P D vwCl (w1 u) t.heap ∧ va_K D vwCl (tyl cy) t ∧ va_D (va_A w0 sz) (w1 u)) (va_A w0 sz)) mc ms (va_A w0 sz)
section CROWS
variable {p : Program} {l : Launch} {e : Env} {R : Room} {s : State} {m : MethodId} {args : Array Value} {below : List Frame} {meth : Method} {c : Code} {D : va_G} {cy : Nat → ClassId} {A : Nat → Prop} {nL : Nat} {Q : State → Prop} {cc : ByteArray} {own : String}
variable {B0 ka va : Nat} {pc : Nat} {lv : List (Nat × Value)} {st : List Value} {ws : va_W} {cells slots : Nat}
theorem k_aload_n (hO : OKd p R s m args meth c D cy B0 ka va A cc own nL) {k : Fin 4} {i : Nat} {x : Nat} (hdg : decode cc pc = .ok (.aload_n k, 1)) (j : Nat) (hj : lv[j]? = some (i, .ref x)) (hi : (k : Nat) = i) (K : BC p l e R s m args below meth c D A nL Q (pc + 1) lv (.ref x :: st) ws cells slots) : BC p l e R s m args below meth c D A nL Q pc lv st ws cells slots := fun H locs ls hP hD hS hl => lv_aload_n hO.1 hO.2.1 hdg hi (lv_at hl j hj) (K H locs ls hP hD hS hl)
theorem k_iload_n (hO : OKd p R s m args meth c D cy B0 ka va A cc own nL) {k : Fin 4} {i : Nat} {x : Int32} (hdg : decode cc pc = .ok (.iload_n k, 1)) (j : Nat) (hj : lv[j]? = some (i, .int x)) (hi : (k : Nat) = i) (K : BC p l e R s m args below meth c D A nL Q (pc + 1) lv (.int x :: st) ws cells slots) : BC p l e R s m args below meth c D A nL Q pc lv st ws cells slots := fun H locs ls hP hD hS hl => lv_iload_n hO.1 hO.2.1 hdg hi (lv_at hl j hj) (K H locs ls hP hD hS hl)
theorem k_iconst (hO : OKd p R s m args meth c D cy B0 ka va A cc own nL) {n : Int} {v : Int32} (hdg : decode cc pc = .ok (.iconst n, 1)) (hv : Int32.ofInt n = v) (K : BC p l e R s m args below meth c D A nL Q (pc + 1) lv (.int v :: st) ws cells slots) : BC p l e R s m args below meth c D A nL Q pc lv st ws cells slots := fun H locs ls hP hD hS hl => lv_iconst hO.1 hO.2.1 hdg hv (K H locs ls hP hD hS hl)
theorem k_bipush (hO : OKd p R s m args meth c D cy B0 ka va A cc own nL) {n : Int} {v : Int32} (hdg : decode cc pc = .ok (.bipush n, 2)) (hv : (Int8.ofInt n).toInt32 = v) (K : BC p l e R s m args below meth c D A nL Q (pc + 2) lv (.int v :: st) ws cells slots) : BC p l e R s m args below meth c D A nL Q pc lv st ws cells slots := fun H locs ls hP hD hS hl => lv_bipush hO.1 hO.2.1 hdg hv (K H locs ls hP hD hS hl)
theorem k_sipush (hO : OKd p R s m args meth c D cy B0 ka va A cc own nL) {n : Int} {v : Int32} (hdg : decode cc pc = .ok (.sipush n, 3)) (hv : (Int16.ofInt n).toInt32 = v) (K : BC p l e R s m args below meth c D A nL Q (pc + 3) lv (.int v :: st) ws cells slots) : BC p l e R s m args below meth c D A nL Q pc lv st ws cells slots := fun H locs ls hP hD hS hl => lv_sipush hO.1 hO.2.1 hdg hv (K H locs ls hP hD hS hl)
theorem k_lconst (hO : OKd p R s m args meth c D cy B0 ka va A cc own nL) {n : Fin 2} {v : Int64} (hdg : decode cc pc = .ok (.lconst n, 1)) (hv : Int64.ofNat (n : Nat) = v) (K : BC p l e R s m args below meth c D A nL Q (pc + 1) lv (.long v :: st) ws cells slots) : BC p l e R s m args below meth c D A nL Q pc lv st ws cells slots := fun H locs ls hP hD hS hl => lv_lconst hO.1 hO.2.1 hdg hv (K H locs ls hP hD hS hl)
theorem k_dup (hO : OKd p R s m args meth c D cy B0 ka va A cc own nL) {vv : Value} (hdg : decode cc pc = .ok (.dup, 1)) (hva : vv.category = 1) (K : BC p l e R s m args below meth c D A nL Q (pc + 1) lv (vv :: vv :: st) ws cells slots) : BC p l e R s m args below meth c D A nL Q pc lv (vv :: st) ws cells slots := fun H locs ls hP hD hS hl => lv_dup hO.1 hO.2.1 hdg hva (K H locs ls hP hD hS hl)
theorem k_obj (hO : OKd p R s m args meth c D cy B0 ka va A cc own nL) {a idx : Nat} (hlk : Cond.methodLink own idx objectInit ∈ lw_g) (hin : Cond.instanceMethod objectInit ∈ lw_g) (hcd : Cond.code objectInit ⟨#[0xb1]⟩ 1 none ∈ lw_g) (hf : 1 ≤ R.frames) (hroom : (st.map fun v => v.category).sum + 12 ≤ R.locals) (hdg : decode cc pc = .ok (.invokespecial idx, 3)) (K : BC p l e R s m args below meth c D A nL Q (pc + 3) lv st ws cells slots) : BC p l e R s m args below meth c D A nL Q pc lv (.ref a :: st) ws cells slots := fun H locs ls hP hD hS hl => 
  W.objInit hO.1 hO.2.1 hO.2.2.2.1 (hO.2.2.2.2.1 _ hlk) (hO.2.2.2.2.1 _ hin) (hO.2.2.2.2.1 _ hcd) rfl (by rw [hO.2.2.1]; exact hl.1) rfl hdg hf (by show 2 * 0 + _ + 12 ≤ _; omega) (K H locs ls hP hD hS hl)
theorem k_get (hO : OKd p R s m args meth c D cy B0 ka va A cc own nL) {Cn : String} {T : u_T} {N : Nat} {ty0 : Nat → FieldType} {idx ci k a : Nat} (hF : FL own idx ci k Cn T N ty0) (q0 : Nat) {fs : List Value} (he : ws[q0]? = some (a, .inr (ci, fs))) {v : Value} (hv : fs[k]? = some v) (hdg : decode cc pc = .ok (.getfield idx, 3)) (K : BC p l e R s m args below meth c D A nL Q (pc + 3) lv (v :: st) ws cells slots) : BC p l e R s m args below meth c D A nL Q pc lv (.ref a :: st) ws cells slots := fun H locs ls hP hD hS hl => by
  obtain ⟨h1, h2, h3, h4, h5, h6, h7⟩ := hF
  exact va_get (D := D) (ci := ci) (v := v) (C := Cn) (T := T) (N := N) hO.1 hO.2.1 hO.2.2.2.2.1 h2 hO.2.2.2.1 hO.2.2.2.2.2.1 hP q0 he h1 k h3 (hO.2.2.2.2.1 _ h4) (fun _ h9 => h9) hv hdg (K H locs ls hP hD hS hl)
theorem k_put (hO : OKd p R s m args meth c D cy B0 ka va A cc own nL) {Cn : String} {T : u_T} {N : Nat} {ty0 : Nat → FieldType} {idx ci k a : Nat} {v : Value} {ty : FieldType} {ws' : va_W} (hF : FL own idx ci k Cn T N ty0) (q0 : Nat) {fs : List Value} (he : ws[q0]? = some (a, .inr (ci, fs))) (hfin : (T k).2.2.2 = false) (hty : ty0 k = ty) (hn : narrow ty v = v) (hfit : fits ty v = true) (hlen : k < fs.length) (hw : ws.set q0 (a, .inr (ci, fs.set k v)) = ws') (hdg : decode cc pc = .ok (.putfield idx, 3)) (K : BC p l e R s m args below meth c D A nL Q (pc + 3) lv st ws' cells slots) : BC p l e R s m args below meth c D A nL Q pc lv (v :: .ref a :: st) ws cells slots := fun H locs ls hP hD hS hl => by
  obtain ⟨h1, h2, h3, h4, h5, h6, h7⟩ := hF
  subst hw
  exact va_put (D := D) (ci := ci) (v := v) (ty := ty) (C := Cn) (T := T) (N := N) hO.1 hO.2.1 hO.2.2.2.2.1 h2 ty0 h6 h7 hO.2.2.2.1 hO.2.2.2.2.2.1 hP hD hS q0 he h1 k h3 (hO.2.2.2.2.1 _ h4) (fun _ h9 => h9) hfin (by rw [h6 k h3, hty]) hn hfit hlen hdg (fun H1 locs1 hP1 hD1 hS1 => K H1 locs1 ls hP1 hD1 hS1 hl)
theorem k_putF (hO : OKd p R s m args meth c D cy B0 ka va A cc own nL) {Cn : String} {T : u_T} {N : Nat} {ty0 : Nat → FieldType} {idx ci k a : Nat} {v : Value} {ty : FieldType} {ws' : va_W} (hF : FL own idx ci k Cn T N ty0) (q0 : Nat) {fs : List Value} (he : ws[q0]? = some (a, .inr (ci, fs))) (hfin : (T k).2.2.2 = true) (hdecl : (T k).1 = own) (hty : ty0 k = ty) (hn : narrow ty v = v) (hfit : fits ty v = true) (hlen : k < fs.length) (hw : ws.set q0 (a, .inr (ci, fs.set k v)) = ws') (hdg : decode cc pc = .ok (.putfield idx, 3)) (K : BC p l e R s m args below meth c D A nL Q (pc + 3) lv st ws' cells slots) : BC p l e R s m args below meth c D A nL Q pc lv (v :: .ref a :: st) ws cells slots := fun H locs ls hP hD hS hl => by
  obtain ⟨h1, h2, h3, h4, h5, h6, h7⟩ := hF
  subst hw
  exact va_putF (D := D) (ci := ci) (v := v) (ty := ty) (C := Cn) (T := T) (N := N) hO.1 hO.2.1 hO.2.2.2.2.1 h2 ty0 h6 h7 hO.2.2.2.1 hO.2.2.2.2.2.1 hP hD hS q0 he h1 k h3 (hO.2.2.2.2.1 _ h4) (fun _ h9 => h9) hfin hO.2.2.2.2.2.2.2.2.2.1 hdecl (by rw [h6 k h3, hty]) hn hfit hlen hdg (fun H1 locs1 hP1 hD1 hS1 => K H1 locs1 ls hP1 hD1 hS1 hl)
/-- what the tables say of a class that is made by entry idx of own -/
def NL (own : String) (idx ci : Nat) (Cn : String) (T : u_T) (N : Nat) (ty0 : Nat → FieldType) : Prop := vwCl[ci]? = some (Cn, T, N) ∧ (∀ w ∈ u_ws Cn T N, w ∈ lw_g) ∧ Cond.classLink own idx Cn ∈ lw_g ∧ Cond.instantiable Cn N ∈ lw_g ∧ Cond.initialized Cn ∈ lw_g ∧ (∀ k, k < N → parseFieldDescriptor (T k).2.2.1 = some (ty0 k))
theorem k_new (hO : OKd p R s m args meth c D cy B0 ka va A cc own nL) {Cn : String} {T : u_T} {N : Nat} {ty0 : Nat → FieldType} {idx ci : Nat} {fs : List Value} {w' : Nat → va_W} (hN : NL own idx ci Cn T N ty0) (hfs : ∀ j, j < N → defaultValue (ty0 j) = vp_V fs j) (hw : ∀ q, ws ++ [(q, .inr (ci, fs))] = w' q) (hcells : cells + 1 ≤ R.cells) (hslots : slots + N ≤ R.slots) (hdg : decode cc pc = .ok (.new idx, 3)) (K : ∀ q, BC p l e R s m args below meth c D A nL Q (pc + 3) lv (.ref q :: st) (w' q) (cells + 1) (slots + N)) : BC p l e R s m args below meth c D A nL Q pc lv st ws cells slots := fun H locs ls hP hD hS hl => by
  obtain ⟨h1, h2, h3, h4, h5, h6⟩ := hN
  exact va_new (ci := ci) (fs := fs) (C := Cn) (T := T) (N := N) hO.1 hO.2.1 hO.2.2.2.2.1 h2 ty0 h6 hO.2.2.2.1 (hO.2.2.2.2.1 _ h3) (hO.2.2.2.2.1 _ h4) (hO.2.2.2.2.1 _ h5) hO.2.2.2.2.2.1 hP hD hS hO.2.2.2.2.2.2.1 h1 hfs hcells hslots hdg (fun q H1 hP1 hD1 hS1 => by rw [hw q] at hP1 hD1; exact K q H1 locs ls hP1 hD1 hS1 hl)
theorem k_newaI (hO : OKd p R s m args meth c D cy B0 ka va A cc own nL) {n : Int32} {N : Nat} {w' : Nat → va_W} (harr : Cond.arrayClass .int ∈ lw_g) (hn : ¬ n < 0) (hN : n.toNatClampNeg = N) (hb : N ≤ 5000) (hw : ∀ q, ws ++ [(q, .inl (cy 0, N, .inl (fun _ => 0)))] = w' q) (hcells : cells + 1 ≤ R.cells) (hslots : slots + N ≤ R.slots) (hdg : decode cc pc = .ok (.newarray .int, 2)) (K : ∀ q, BC p l e R s m args below meth c D A nL Q (pc + 2) lv (.ref q :: st) (w' q) (cells + 1) (slots + N)) : BC p l e R s m args below meth c D A nL Q pc lv (.int n :: st) ws cells slots := fun H locs ls hP hD hS hl => by
  refine va_newa (atype := .int) (ty := .int) (a0 := (N, .inl (fun _ => 0))) hO.1 hO.2.1 (hO.2.2.2.2.1 _ harr) rfl hO.2.2.2.2.2.1 hP hD hS hO.2.2.2.2.2.2.1 (fun _ => rfl) hn hN (by show N * 4 ≤ 536870912; omega) hcells hslots hdg (fun q cA H1 hK1 hP1 hD1 hS1 => ?_)
  have h1 : s.vm.findClass ("[" ++ FieldType.int.toString) = some cA := (hK1.2 4 (cA, .int) rfl).2
  have h2 : s.vm.findClass ("[" ++ FieldType.int.toString) = some (cy 0) := (hO.2.2.2.2.2.1.2 0 _ rfl).2
  have e : cA = cy 0 := Option.some.inj (h1.symm.trans h2)
  subst e
  rw [hw q] at hP1 hD1
  exact K q H1 locs ls hP1 hD1 hS1 hl
theorem k_newaJ (hO : OKd p R s m args meth c D cy B0 ka va A cc own nL) {n : Int32} {N : Nat} {w' : Nat → va_W} (harr : Cond.arrayClass .long ∈ lw_g) (hn : ¬ n < 0) (hN : n.toNatClampNeg = N) (hb : N ≤ 5000) (hw : ∀ q, ws ++ [(q, .inl (cy 1, N, .inr (.inl (fun _ => 0))))] = w' q) (hcells : cells + 1 ≤ R.cells) (hslots : slots + N ≤ R.slots) (hdg : decode cc pc = .ok (.newarray .long, 2)) (K : ∀ q, BC p l e R s m args below meth c D A nL Q (pc + 2) lv (.ref q :: st) (w' q) (cells + 1) (slots + N)) : BC p l e R s m args below meth c D A nL Q pc lv (.int n :: st) ws cells slots := fun H locs ls hP hD hS hl => by
  refine va_newa (atype := .long) (ty := .long) (a0 := (N, .inr (.inl (fun _ => 0)))) hO.1 hO.2.1 (hO.2.2.2.2.1 _ harr) rfl hO.2.2.2.2.2.1 hP hD hS hO.2.2.2.2.2.2.1 (fun _ => rfl) hn hN (by show N * 8 ≤ 536870912; omega) hcells hslots hdg (fun q cA H1 hK1 hP1 hD1 hS1 => ?_)
  have h1 : s.vm.findClass ("[" ++ FieldType.long.toString) = some cA := (hK1.2 4 (cA, .long) rfl).2
  have h2 : s.vm.findClass ("[" ++ FieldType.long.toString) = some (cy 1) := (hO.2.2.2.2.2.1.2 1 _ rfl).2
  have e : cA = cy 1 := Option.some.inj (h1.symm.trans h2)
  subst e
  rw [hw q] at hP1 hD1
  exact K q H1 locs ls hP1 hD1 hS1 hl
theorem k_newaZ (hO : OKd p R s m args meth c D cy B0 ka va A cc own nL) {n : Int32} {N : Nat} {w' : Nat → va_W} (harr : Cond.arrayClass .boolean ∈ lw_g) (hn : ¬ n < 0) (hN : n.toNatClampNeg = N) (hb : N ≤ 5000) (hw : ∀ q, ws ++ [(q, .inl (cy 2, N, .inl (fun _ => 0)))] = w' q) (hcells : cells + 1 ≤ R.cells) (hslots : slots + N ≤ R.slots) (hdg : decode cc pc = .ok (.newarray .boolean, 2)) (K : ∀ q, BC p l e R s m args below meth c D A nL Q (pc + 2) lv (.ref q :: st) (w' q) (cells + 1) (slots + N)) : BC p l e R s m args below meth c D A nL Q pc lv (.int n :: st) ws cells slots := fun H locs ls hP hD hS hl => by
  refine va_newa (atype := .boolean) (ty := .boolean) (a0 := (N, .inl (fun _ => 0))) hO.1 hO.2.1 (hO.2.2.2.2.1 _ harr) rfl hO.2.2.2.2.2.1 hP hD hS hO.2.2.2.2.2.2.1 (fun _ => rfl) hn hN (by show N * 1 ≤ 536870912; omega) hcells hslots hdg (fun q cA H1 hK1 hP1 hD1 hS1 => ?_)
  have h1 : s.vm.findClass ("[" ++ FieldType.boolean.toString) = some cA := (hK1.2 4 (cA, .boolean) rfl).2
  have h2 : s.vm.findClass ("[" ++ FieldType.boolean.toString) = some (cy 2) := (hO.2.2.2.2.2.1.2 2 _ rfl).2
  have e : cA = cy 2 := Option.some.inj (h1.symm.trans h2)
  subst e
  rw [hw q] at hP1 hD1
  exact K q H1 locs ls hP1 hD1 hS1 hl
theorem k_grid (hO : OKd p R s m args meth c D cy B0 ka va A cc own nL) {n k : Int32} {N Kk idx : Nat} {w' : Nat → va_W} (hcl : Cond.classLink own idx "[[I" ∈ lw_g) (hn : ¬ n < 0) (hk : ¬ k < 0) (hN : n.toNatClampNeg = N) (hK : k.toNatClampNeg = Kk) (hb1 : N ≤ 1000) (hb2 : Kk ≤ 1000) (hw : ∀ q, ws ++ ((q, .inl (cy 3, N, .inr (.inr (.inr (.inr (fun i => some (q + 1 + i))))))) :: (List.range N).map (fun i => (q + 1 + i, .inl (cy 0, Kk, .inl (fun _ => 0))))) = w' q) (hcells : cells + (1 + N) ≤ R.cells) (hslots : slots + (N + N * Kk) ≤ R.slots) (hdg : decode cc pc = .ok (.multianewarray idx 2, 4)) (K : ∀ q, BC p l e R s m args below meth c D A nL Q (pc + 4) lv (.ref q :: st) (w' q) (cells + 1 + N) (slots + N + N * Kk)) : BC p l e R s m args below meth c D A nL Q pc lv (.int k :: .int n :: st) ws cells slots := fun H locs ls hP hD hS hl => by
  subst hN
  subst hK
  intro T hT X
  obtain ⟨vm₁, XF, step⟩ := ga_step X hO.1 (cy := cy) hO.2.2.2.1 (hO.2.2.2.2.1 _ hcl) (hO.2.2.2.2.2.1.2 3 _ rfl).2 hO.2.2.2.2.2.2.2.2.2.2.1.1 (g := F0 m pc ls (.int k :: .int n :: st)) rfl (by rw [hO.2.1]; exact hdg) rfl hn hk hb1 hb2 hcells hslots
  generalize hF : ga_st (T.setVm vm₁) (cy 3) (cy 0) n.toNatClampNeg k.toNatClampNeg n.toNatClampNeg = F at XF step
  have hTh : (T.setVm vm₁).heap = H := hT
  obtain ⟨f1, f2, -, -⟩ := ga_facts (T.setVm vm₁) (cy 3) (cy 0) n.toNatClampNeg k.toNatClampNeg n.toNatClampNeg
  rw [hF, hTh] at f1 f2
  have hold : ∀ x : Nat, x < H.size → F.heap[x]? = H[x]? := fun x hx => by
    have := ga_old (T.setVm vm₁) (cy 3) (cy 0) n.toNatClampNeg k.toNatClampNeg (a := x) (by rw [hTh]; exact hx) n.toNatClampNeg
    rw [hF, hTh] at this
    exact this
  have hrow : ∀ j : Nat, j < n.toNatClampNeg → F.heap[H.size + 1 + j]? = some (vp_cell (cy 0) (k.toNatClampNeg, .inl (fun _ => 0))) := fun j hj => by
    have := ga_rows (T.setVm vm₁) (cy 3) (cy 0) n.toNatClampNeg k.toNatClampNeg n.toNatClampNeg j hj
    rw [hF, hTh] at this
    rw [this, vp_cell_i, ← arrV_new]
    rfl
  have hout : F.heap[H.size]? = some (vp_cell (cy 3) (n.toNatClampNeg, .inr (.inr (.inr (.inr (fun i => some (H.size + 1 + i))))))) := by
    rw [f2, ga_out_is, vp_cell_q]
    refine congrArg some ?_
    show ({ cls := cy 3, slots := Array.ofFn (n := n.toNatClampNeg) fun j => _, vm := .none } : Cell) = { cls := cy 3, slots := Array.ofFn (n := n.toNatClampNeg) fun j => _, vm := .none }
    congr 2
    funext j
    show va_rf (if (j : Nat) < n.toNatClampNeg then some (H.size + 1 + j) else none) = _
    rw [if_pos j.isLt]
  have hP1 : va_P D vwCl (ws ++ ((H.size, .inl (cy 3, n.toNatClampNeg, .inr (.inr (.inr (.inr (fun i => some (H.size + 1 + i))))))) :: (List.range n.toNatClampNeg).map (fun i => (H.size + 1 + i, .inl (cy 0, k.toNatClampNeg, .inl (fun _ => 0)))))) F.heap := by
    refine va_P.app (hP.kept (fun k9 x hx => hold x.1 ((hP k9 x hx).lt))) (fun k9 x hx => ?_)
    rcases List.mem_cons.mp (List.mem_of_getElem? hx) with e1 | e1
    · subst e1; exact hout
    · obtain ⟨i, hi, rfl⟩ := List.mem_map.mp e1
      exact hrow i (List.mem_range.mp hi)
  have hat : ∀ (j : Nat) (x : Nat × va_E), (((H.size, .inl (cy 3, n.toNatClampNeg, .inr (.inr (.inr (.inr (fun i => some (H.size + 1 + i))))))) :: (List.range n.toNatClampNeg).map (fun i => (H.size + 1 + i, .inl (cy 0, k.toNatClampNeg, .inl (fun _ => 0))))) : va_W)[j]? = some x → x.1 = H.size + j := fun j x hx => by
    cases j with
    | zero => cases hx; rfl
    | succ j =>
      rw [List.getElem?_cons_succ, List.getElem?_map] at hx
      by_cases hj : j < n.toNatClampNeg
      · rw [List.getElem?_range hj] at hx
        cases hx
        show H.size + 1 + j = _
        omega
      · rw [List.getElem?_eq_none (by rw [List.length_range]; omega)] at hx
        cases hx
  have hD1 : va_D A (ws ++ ((H.size, .inl (cy 3, n.toNatClampNeg, .inr (.inr (.inr (.inr (fun i => some (H.size + 1 + i))))))) :: (List.range n.toNatClampNeg).map (fun i => (H.size + 1 + i, .inl (cy 0, k.toNatClampNeg, .inl (fun _ => 0)))))) := by
    refine va_D.app hD ⟨fun i j x y hx hy hxy => ?_, fun k9 x hx => ?_⟩ (fun i j x y hx hy hxy => ?_)
    · have h1 := hat i x hx
      have h2 := hat j y hy
      omega
    · rw [hat k9 x hx]
      exact hO.2.2.2.2.2.2.1 _ (by have := hS.1; omega)
    · have h1 := (hP i x hx).lt
      have h2 := hat j y hy
      omega
  have hS1 : va_S A s.heap F.heap locs := ⟨by rw [f1]; have := hS.1; omega, fun x h1 h2 => (hold x (Nat.lt_of_lt_of_le h1 hS.1)).trans (hS.2.1 x h1 h2), hS.2.2⟩
  rw [hw H.size] at hP1 hD1
  obtain ⟨t, a1, b1⟩ := K H.size F.heap locs ls hP1 hD1 hS1 hl F rfl XF
  refine ⟨t, step t ?_, b1⟩
  have e9 : T.heap.size = H.size := by rw [hT]
  rw [e9]
  exact a1
theorem CC_blind {av : List Value} {w0 : va_W} {sz : Nat} : FrameBlind (va_Pc av (fun U => U.heap.size = sz ∧ va_P D vwCl w0 U.heap ∧ va_K D vwCl (tyl cy) U ∧ va_D (fun _ => True) w0 ∧ EX cy B0 ka va U ∧ ∀ q, va_A w0 sz q → B0 ≤ q)) := fun a U g mk q => by
  obtain ⟨q0, q1, qP, qK, qD, qA, qB⟩ := q
  exact ⟨q0, q1, qP, va_K.moved (u := U) (U := U.calling g mk a) (Vm.Alike.refl U.vm) qK, qD, EX.call g mk a qA, qB⟩
theorem k_callI (hO : OKd p R s m args meth c D cy B0 ka va A cc own nL) {y : MethodName} {bytes : ByteArray} {maxL n idx b mc ms : Nat} {R2 : Room} {As : List Value} {w0 : va_W} {w1 w' : (Nat → Nat) → va_W} (isC isR : List Nat) {wr : va_W} (hM : MD y bytes maxL none n) (hin : Cond.instanceMethod y ∈ lw_g) (hnm : y.name = "<init>") (hlk : Cond.methodLink own idx y ∈ lw_g) (hC : CC l D cy B0 ka va y bytes maxL R2 (.ref b :: As) w0 w1 mc ms) (hrc : R2.cells = mc) (hrs : R2.slots = ms) (hf : R2.frames + 1 ≤ R.frames) (hlo : 8 + (maxL + 11) + R2.locals ≤ R.locals) (hn : As.length = n) {stk : List Value} (hst : stk = As.reverse ++ .ref b :: st) (hroom : (st.map fun v => v.category).sum ≤ 8) (h0 : isC.map (fun i => ws[i]?) = w0.map some) (hR : isR.map (fun i => ws[i]?) = wr.map some) (hnd : va_nd isR = true) (hnd0 : va_nd isC = true) (hdis : ∀ i ∈ isR, i ∉ isC) (hw : ∀ u, wr ++ w1 u = w' u) (hcells : cells + mc ≤ R.cells) (hslots : slots + ms ≤ R.slots) (hdg : decode cc pc = .ok (.invokespecial idx, 3)) (K : ∀ u : Nat → Nat, BC p l e R s m args below meth c D A nL Q (pc + 3) lv st (w' u) (cells + mc) (slots + ms)) : BC p l e R s m args below meth c D A nL Q pc lv stk ws cells slots := fun H locs ls hP hD hS hl => by
  subst hst
  have hP0 : va_P D vwCl w0 H := fun k q hk => by
    have h9 : (isC.map (fun i => ws[i]?))[k]? = some (some q) := by rw [h0, List.getElem?_map, hk]; rfl
    rw [List.getElem?_map] at h9
    cases hi : isC[k]? with
    | none => rw [hi] at h9; cases h9
    | some i => rw [hi] at h9; exact hP i q (Option.some.inj h9)
  have hD0 : va_D A w0 := hD.sub isC hnd0 h0
  have hFc := va_free (wc := w0) hD hS hO.2.2.2.2.2.2.1 isC h0
  refine va_callv (va_runI (As := As) (rest := st) ⟨hO.1, hO.2.1, hO.2.2.1, hO.2.2.2.1, hO.2.2.2.2.1⟩ (hC H.size) ⟨callB_of n hO.2.2.2.2.1 (gd_all hM) rfl hrc hrs (hO.2.2.2.2.1 _ hM.2.1) (hO.2.2.2.2.1 _ hlk) hM.2.2.1 ⟨hf, hlo⟩, hnm, hO.2.2.2.2.1 _ hin⟩ ⟨CC_blind, fun U hU hw9 => ⟨rfl, by rw [hU], by rw [hU]; exact hP0, va_K.moved hw9.alike hO.2.2.2.2.2.1, hD0.weaken (fun _ _ _ _ => trivial), EX.st hw9 (fun a9 h9 h8 => by rw [hU]; exact hS.2.1 a9 h9 (fun q => h8 (hO.2.2.2.2.2.2.2.2.2.2.2 a9 q))) hO.2.2.2.2.2.2.2.2.2.2.1, fun q h9 => hO.2.2.2.2.2.2.2.2.2.2.2 q (hFc q h9)⟩⟩ rfl hn hl.1 rfl (lv_room hroom) hdg ⟨hcells, hslots⟩) hS (fun q _ h => hFc q h) hFc (fun u t H1 locs1 ht hvm hw9 hB hz1 hk1 hS1 => ?_)
  obtain ⟨hP1, hK1, hD1⟩ := hB
  rw [ht] at hP1
  obtain ⟨hP2, hD2⟩ := va_join (wr := wr) (w1 := w1 u) hP hD isC isR h0 hR hnd hdis hk1 hFc hP1 hD1
  rw [hw u] at hP2 hD2
  exact K u H1 locs1 ls hP2 hD2 hS1 hl
theorem k_callIN (hO : OKd p R s m args meth c D cy B0 ka va A cc own nL) {host : String} {y : MethodName} {bytes : ByteArray} {maxL n idx b mc ms : Nat} {R2 : Room} {As : List Value} {w0 : va_W} {w1 w' : (Nat → Nat) → va_W} (isC isR : List Nat) {wr : va_W} (hM : MD y bytes maxL none n) (hin : Cond.instanceMethod y ∈ lw_g) (hnm : y.name = "<init>") (hlk : Cond.methodLinkNest own idx y host ∈ nestW) (hC : CC l D cy B0 ka va y bytes maxL R2 (.ref b :: As) w0 w1 mc ms) (hrc : R2.cells = mc) (hrs : R2.slots = ms) (hf : R2.frames + 1 ≤ R.frames) (hlo : 8 + (maxL + 11) + R2.locals ≤ R.locals) (hn : As.length = n) {stk : List Value} (hst : stk = As.reverse ++ .ref b :: st) (hroom : (st.map fun v => v.category).sum ≤ 8) (h0 : isC.map (fun i => ws[i]?) = w0.map some) (hR : isR.map (fun i => ws[i]?) = wr.map some) (hnd : va_nd isR = true) (hnd0 : va_nd isC = true) (hdis : ∀ i ∈ isR, i ∉ isC) (hw : ∀ u, wr ++ w1 u = w' u) (hcells : cells + mc ≤ R.cells) (hslots : slots + ms ≤ R.slots) (hdg : decode cc pc = .ok (.invokespecial idx, 3)) (K : ∀ u : Nat → Nat, BC p l e R s m args below meth c D A nL Q (pc + 3) lv st (w' u) (cells + mc) (slots + ms)) : BC p l e R s m args below meth c D A nL Q pc lv stk ws cells slots := fun H locs ls hP hD hS hl => by
  subst hst
  have hP0 : va_P D vwCl w0 H := fun k q hk => by
    have h9 : (isC.map (fun i => ws[i]?))[k]? = some (some q) := by rw [h0, List.getElem?_map, hk]; rfl
    rw [List.getElem?_map] at h9
    cases hi : isC[k]? with
    | none => rw [hi] at h9; cases h9
    | some i => rw [hi] at h9; exact hP i q (Option.some.inj h9)
  have hD0 : va_D A w0 := hD.sub isC hnd0 h0
  have hFc := va_free (wc := w0) hD hS hO.2.2.2.2.2.2.1 isC h0
  refine va_callv (va_runIN (As := As) (rest := st) ⟨hO.1, hO.2.1, hO.2.2.1, hO.2.2.2.1, hO.2.2.2.2.1⟩ (hC H.size) ⟨va_cnB n hO.2.2.2.2.1 (gd_all hM) rfl hrc hrs (hO.2.2.2.2.2.2.2.2.2.2.1.2.1 _ hlk) (hO.2.2.2.2.1 _ hM.2.1) hM.2.2.1 ⟨hf, hlo⟩, hnm, hO.2.2.2.2.1 _ hin⟩ ⟨CC_blind, fun U hU hw9 => ⟨rfl, by rw [hU], by rw [hU]; exact hP0, va_K.moved hw9.alike hO.2.2.2.2.2.1, hD0.weaken (fun _ _ _ _ => trivial), EX.st hw9 (fun a9 h9 h8 => by rw [hU]; exact hS.2.1 a9 h9 (fun q => h8 (hO.2.2.2.2.2.2.2.2.2.2.2 a9 q))) hO.2.2.2.2.2.2.2.2.2.2.1, fun q h9 => hO.2.2.2.2.2.2.2.2.2.2.2 q (hFc q h9)⟩⟩ rfl hn hl.1 rfl (lv_room hroom) hdg ⟨hcells, hslots⟩) hS (fun q _ h => hFc q h) hFc (fun u t H1 locs1 ht hvm hw9 hB hz1 hk1 hS1 => ?_)
  obtain ⟨hP1, hK1, hD1⟩ := hB
  rw [ht] at hP1
  obtain ⟨hP2, hD2⟩ := va_join (wr := wr) (w1 := w1 u) hP hD isC isR h0 hR hnd hdis hk1 hFc hP1 hD1
  rw [hw u] at hP2 hD2
  exact K u H1 locs1 ls hP2 hD2 hS1 hl
theorem CC.mk {y : MethodName} {bytes : ByteArray} {maxL : Nat} {av : List Value} {w0 : va_W} {w1 : (Nat → Nat) → va_W} {mc ms : Nat} (hy : plainName y.cls = true) (hnm : y.name = "<init>") (hlen : (lg_sl av).length ≤ maxL) (body : ∀ {p : Program} {e : Env} {s : State} {m : MethodId} {args : Array Value} {below : List Frame} {meth : Method} {c : Code}, OKd p R s m args meth c D cy B0 ka va (va_A w0 s.heap.size) bytes y.cls maxL → BC p l e R s m args below meth c D (va_A w0 s.heap.size) maxL (MQ below (va_Qv (fun _ : Nat → Nat => True) (fun u t => va_P D vwCl (w1 u) t.heap ∧ va_K D vwCl (tyl cy) t ∧ va_D (va_A w0 s.heap.size) (w1 u)) (va_A w0 s.heap.size)) args s mc ms (va_A w0 s.heap.size)) 0 (lv_args 0 av) [] w0 0 0) : CC l D cy B0 ka va y bytes maxL R av w0 w1 mc ms := fun sz => by
  refine Met.ofW (cc := bytes) (maxL := maxL) (ret := none) hy rfl ?_
  intro p e s m args below meth c s₁ B hml hv
  obtain ⟨rfl, hsz, hP, hK, hD0, hAO, hB0⟩ := hv
  subst hsz
  have hts := atoms_spec (ws := .code y bytes maxL none :: lw_g) B.pre
  have hown : s.vm.findClass y.cls = some m.cls := findClass_of_methodNamed B.named
  have hin : meth.name = "<init>" := (name_of_methodNamed B.named B.method).1.trans hnm
  have hl := lv_entry av (n := maxL) hlen
  rw [lg_entry_eq]
  exact body ⟨B.exec, B.bytes, hml, hown, fun w hw => hts w (List.mem_cons_of_mem _ hw), hK, fun q h => Or.inr h, B.notSynchronized, B.returns, hin, hAO, hB0⟩ s.heap [] _ hP hD0.self va_S.rf hl
theorem k_ret (hO : OKd p R s m args meth c D cy B0 ka va A cc own nL) {w0 : va_W} {w1 : (Nat → Nat) → va_W} (u : Nat → Nat) (js : List Nat) (hjs : js.filterMap (fun i => ws[i]?) = w1 u) (hjd : js.map (fun i => ws[i]?) = (w1 u).map some) (hnd : va_nd js = true) (hdg : decode cc pc = .ok (.return_, 1)) : BC p l e R s m args below meth c D A nL (MQ below (va_Qv (fun _ : Nat → Nat => True) (fun u t => va_P D vwCl (w1 u) t.heap ∧ va_K D vwCl (tyl cy) t ∧ va_D A (w1 u)) A) args s cells slots A) pc lv [] ws cells slots := fun H locs ls hP hD hS hl => by
  have hP9 := hP.sub js hjs
  have hD9 := hD.sub js hnd hjd
  exact W.vret hO.1 hO.2.1 hO.2.2.2.2.2.2.2.2.1 (fun t ht hW => ⟨⟨u, rfl, trivial, by rw [ht]; exact hP9, va_K.moved hW.alike hO.2.2.2.2.2.1, hD9⟩, hS.F ht⟩) hS.2.2 hdg hO.2.2.2.2.2.2.2.1
end CROWS
